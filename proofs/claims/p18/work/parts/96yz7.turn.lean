/-! toTurn: both sides, the pair (printed by wip/e2/x29.py) -/
theorem vle_0 : xe_look (xc 104) 0 = some (.aload_n 0, 1, 0, 0, 0) := by decide +kernel
theorem vle_1 : xe_look (xc 104) 1 = some (.getfield 24, 3, 10, 5, 975) := by decide +kernel
theorem vle_4 : xe_look (xc 104) 4 = some (.bipush 8, 2, 0, 0, 0) := by decide +kernel
theorem vle_6 : xe_look (xc 104) 6 = some (.iaload, 1, 0, 0, 0) := by decide +kernel
theorem vle_7 : xe_look (xc 104) 7 = some (.ireturn, 1, 0, 0, 0) := by decide +kernel
theorem vta_0 : xe_look (xc 108) 0 = some (.iload_n 1, 1, 0, 0, 0) := by decide +kernel
theorem vta_1 : xe_look (xc 108) 1 = some (.iconst 0, 1, 0, 0, 0) := by decide +kernel
theorem vta_2 : xe_look (xc 108) 2 = some (.bipush 6, 2, 0, 0, 0) := by decide +kernel
theorem vta_4 : xe_look (xc 108) 4 = some (.invokestatic 30, 3, 1, 124, 10) := by decide +kernel
theorem vta_7 : xe_look (xc 108) 7 = some (.ifCond .eq 12, 3, 0, 0, 0) := by decide +kernel
theorem vta_10 : xe_look (xc 108) 10 = some (.aload_n 0, 1, 0, 0, 0) := by decide +kernel
theorem vta_11 : xe_look (xc 108) 11 = some (.getfield 27, 3, 10, 6, 979) := by decide +kernel
theorem vta_14 : xe_look (xc 108) 14 = some (.iload_n 1, 1, 0, 0, 0) := by decide +kernel
theorem vta_15 : xe_look (xc 108) 15 = some (.iaload, 1, 0, 0, 0) := by decide +kernel
theorem vta_16 : xe_look (xc 108) 16 = some (.goto 4, 3, 0, 0, 0) := by decide +kernel
theorem vta_20 : xe_look (xc 108) 20 = some (.ireturn, 1, 0, 0, 0) := by decide +kernel
theorem vtm_0 : xe_look (xc 263) 0 = some (.aload_n 0, 1, 0, 0, 0) := by decide +kernel
theorem vtm_1 : xe_look (xc 263) 1 = some (.iload_n 1, 1, 0, 0, 0) := by decide +kernel
theorem vtm_2 : xe_look (xc 263) 2 = some (.invokevirtual 205, 3, 0, 205, 1130) := by decide +kernel
theorem vtm_5 : xe_look (xc 263) 5 = some (.ifCond .eq 24, 3, 0, 0, 0) := by decide +kernel
theorem vtm_8 : xe_look (xc 263) 8 = some (.iload_n 2, 1, 0, 0, 0) := by decide +kernel
theorem vtm_9 : xe_look (xc 263) 9 = some (.iconst 0, 1, 0, 0, 0) := by decide +kernel
theorem vtm_10 : xe_look (xc 263) 10 = some (.bipush 6, 2, 0, 0, 0) := by decide +kernel
theorem vtm_12 : xe_look (xc 263) 12 = some (.invokestatic 201, 3, 0, 199, 1131) := by decide +kernel
theorem vtm_15 : xe_look (xc 263) 15 = some (.ifCond .ne 18, 3, 0, 0, 0) := by decide +kernel
theorem vtm_18 : xe_look (xc 263) 18 = some (.iload_n 2, 1, 0, 0, 0) := by decide +kernel
theorem vtm_19 : xe_look (xc 263) 19 = some (.bipush 20, 2, 0, 0, 0) := by decide +kernel
theorem vtm_21 : xe_look (xc 263) 21 = some (.bipush 21, 2, 0, 0, 0) := by decide +kernel
theorem vtm_23 : xe_look (xc 263) 23 = some (.invokestatic 201, 3, 0, 199, 1131) := by decide +kernel
theorem vtm_26 : xe_look (xc 263) 26 = some (.ifCond .ne 7, 3, 0, 0, 0) := by decide +kernel
theorem vtm_29 : xe_look (xc 263) 29 = some (.ldc2_w 447, 3, 0, 9223372036854775807, 1185) := by decide +kernel
theorem vtm_32 : xe_look (xc 263) 32 = some (.lreturn, 1, 0, 0, 0) := by decide +kernel
theorem vtm_33 : xe_look (xc 263) 33 = some (.aload_n 0, 1, 0, 0, 0) := by decide +kernel
theorem vtm_34 : xe_look (xc 263) 34 = some (.iload_n 1, 1, 0, 0, 0) := by decide +kernel
theorem vtm_35 : xe_look (xc 263) 35 = some (.invokevirtual 434, 3, 0, 214, 1186) := by decide +kernel
theorem vtm_38 : xe_look (xc 263) 38 = some (.istore_n 3, 1, 0, 0, 0) := by decide +kernel
theorem vtm_39 : xe_look (xc 263) 39 = some (.iload_n 3, 1, 0, 0, 0) := by decide +kernel
theorem vtm_40 : xe_look (xc 263) 40 = some (.ifCond .ne 7, 3, 0, 0, 0) := by decide +kernel
theorem vtm_43 : xe_look (xc 263) 43 = some (.ldc2_w 460, 3, 0, 9223372036854775806, 1274) := by decide +kernel
theorem vtm_46 : xe_look (xc 263) 46 = some (.lreturn, 1, 0, 0, 0) := by decide +kernel
theorem vtm_47 : xe_look (xc 263) 47 = some (.aload_n 0, 1, 0, 0, 0) := by decide +kernel
theorem vtm_48 : xe_look (xc 263) 48 = some (.iload_n 1, 1, 0, 0, 0) := by decide +kernel
theorem vtm_49 : xe_look (xc 263) 49 = some (.invokevirtual 462, 3, 0, 216, 1284) := by decide +kernel
theorem vtm_52 : xe_look (xc 263) 52 = some (.iload_n 2, 1, 0, 0, 0) := by decide +kernel
theorem vtm_53 : xe_look (xc 263) 53 = some (.bipush 7, 2, 0, 0, 0) := by decide +kernel
theorem vtm_55 : xe_look (xc 263) 55 = some (.if_icmp .ge 13, 3, 0, 0, 0) := by decide +kernel
theorem vtm_58 : xe_look (xc 263) 58 = some (.aload_n 0, 1, 0, 0, 0) := by decide +kernel
theorem vtm_59 : xe_look (xc 263) 59 = some (.getfield 116, 3, 12, 58, 1201) := by decide +kernel
theorem vtm_62 : xe_look (xc 263) 62 = some (.iload_n 2, 1, 0, 0, 0) := by decide +kernel
theorem vtm_63 : xe_look (xc 263) 63 = some (.iaload, 1, 0, 0, 0) := by decide +kernel
theorem vtm_64 : xe_look (xc 263) 64 = some (.i2l, 1, 0, 0, 0) := by decide +kernel
theorem vtm_65 : xe_look (xc 263) 65 = some (.goto 16, 3, 0, 0, 0) := by decide +kernel
theorem vtm_68 : xe_look (xc 263) 68 = some (.aload_n 0, 1, 0, 0, 0) := by decide +kernel
theorem vtm_69 : xe_look (xc 263) 69 = some (.getfield 449, 3, 12, 62, 1239) := by decide +kernel
theorem vtm_72 : xe_look (xc 263) 72 = some (.iload_n 3, 1, 0, 0, 0) := by decide +kernel
theorem vtm_73 : xe_look (xc 263) 73 = some (.i2l, 1, 0, 0, 0) := by decide +kernel
theorem vtm_74 : xe_look (xc 263) 74 = some (.iload_n 2, 1, 0, 0, 0) := by decide +kernel
theorem vtm_75 : xe_look (xc 263) 75 = some (.bipush 20, 2, 0, 0, 0) := by decide +kernel
theorem vtm_77 : xe_look (xc 263) 77 = some (.isub, 1, 0, 0, 0) := by decide +kernel
theorem vtm_78 : xe_look (xc 263) 78 = some (.invokestatic 440, 3, 0, 262, 1188) := by decide +kernel
theorem vtm_81 : xe_look (xc 263) 81 = some (.lreturn, 1, 0, 0, 0) := by decide +kernel
theorem vtt_0 : xe_look (xc 156) 0 = some (.aload_n 0, 1, 0, 0, 0) := by decide +kernel
theorem vtt_1 : xe_look (xc 156) 1 = some (.getfield 16, 3, 11, 2, 983) := by decide +kernel
theorem vtt_4 : xe_look (xc 156) 4 = some (.iload_n 1, 1, 0, 0, 0) := by decide +kernel
theorem vtt_5 : xe_look (xc 156) 5 = some (.invokevirtual 107, 3, 0, 84, 984) := by decide +kernel
theorem vtt_8 : xe_look (xc 156) 8 = some (.astore_n 3, 1, 0, 0, 0) := by decide +kernel
theorem vtt_9 : xe_look (xc 156) 9 = some (.iload_n 2, 1, 0, 0, 0) := by decide +kernel
theorem vtt_10 : xe_look (xc 156) 10 = some (.bipush 20, 2, 0, 0, 0) := by decide +kernel
theorem vtt_12 : xe_look (xc 156) 12 = some (.if_icmp .eq 9, 3, 0, 0, 0) := by decide +kernel
theorem vtt_15 : xe_look (xc 156) 15 = some (.iload_n 2, 1, 0, 0, 0) := by decide +kernel
theorem vtt_16 : xe_look (xc 156) 16 = some (.bipush 21, 2, 0, 0, 0) := by decide +kernel
theorem vtt_18 : xe_look (xc 156) 18 = some (.if_icmp .ne 7, 3, 0, 0, 0) := by decide +kernel
theorem vtt_21 : xe_look (xc 156) 21 = some (.iconst 1, 1, 0, 0, 0) := by decide +kernel
theorem vtt_22 : xe_look (xc 156) 22 = some (.goto 4, 3, 0, 0, 0) := by decide +kernel
theorem vtt_25 : xe_look (xc 156) 25 = some (.iconst 0, 1, 0, 0, 0) := by decide +kernel
theorem vtt_26 : xe_look (xc 156) 26 = some (.istore 4, 2, 0, 0, 0) := by decide +kernel
theorem vtt_28 : xe_look (xc 156) 28 = some (.aload_n 3, 1, 0, 0, 0) := by decide +kernel
theorem vtt_29 : xe_look (xc 156) 29 = some (.ifnull 18, 3, 0, 0, 0) := by decide +kernel
theorem vtt_32 : xe_look (xc 156) 32 = some (.iload 4, 2, 0, 0, 0) := by decide +kernel
theorem vtt_34 : xe_look (xc 156) 34 = some (.ifCond .ne 17, 3, 0, 0, 0) := by decide +kernel
theorem vtt_37 : xe_look (xc 156) 37 = some (.iload_n 2, 1, 0, 0, 0) := by decide +kernel
theorem vtt_38 : xe_look (xc 156) 38 = some (.iconst 0, 1, 0, 0, 0) := by decide +kernel
theorem vtt_39 : xe_look (xc 156) 39 = some (.bipush 6, 2, 0, 0, 0) := by decide +kernel
theorem vtt_41 : xe_look (xc 156) 41 = some (.invokestatic 89, 3, 0, 124, 994) := by decide +kernel
theorem vtt_44 : xe_look (xc 156) 44 = some (.ifCond .ne 7, 3, 0, 0, 0) := by decide +kernel
theorem vtt_47 : xe_look (xc 156) 47 = some (.ldc2_w 253, 3, 0, 9223372036854775807, 1021) := by decide +kernel
theorem vtt_50 : xe_look (xc 156) 50 = some (.lreturn, 1, 0, 0, 0) := by decide +kernel
theorem vtt_51 : xe_look (xc 156) 51 = some (.aload_n 0, 1, 0, 0, 0) := by decide +kernel
theorem vtt_52 : xe_look (xc 156) 52 = some (.getfield 63, 3, 11, 10, 1043) := by decide +kernel
theorem vtt_55 : xe_look (xc 156) 55 = some (.aload_n 3, 1, 0, 0, 0) := by decide +kernel
theorem vtt_56 : xe_look (xc 156) 56 = some (.aload_n 0, 1, 0, 0, 0) := by decide +kernel
theorem vtt_57 : xe_look (xc 156) 57 = some (.getfield 36, 3, 11, 8, 1003) := by decide +kernel
theorem vtt_60 : xe_look (xc 156) 60 = some (.invokevirtual 255, 3, 0, 101, 1102) := by decide +kernel
theorem vtt_63 : xe_look (xc 156) 63 = some (.aload_n 0, 1, 0, 0, 0) := by decide +kernel
theorem vtt_64 : xe_look (xc 156) 64 = some (.getfield 63, 3, 11, 10, 1043) := by decide +kernel
theorem vtt_67 : xe_look (xc 156) 67 = some (.getfield 259, 3, 10, 0, 1103) := by decide +kernel
theorem vtt_70 : xe_look (xc 156) 70 = some (.ifCond .ne 7, 3, 0, 0, 0) := by decide +kernel
theorem vtt_73 : xe_look (xc 156) 73 = some (.ldc2_w 262, 3, 0, 9223372036854775806, 1084) := by decide +kernel
theorem vtt_76 : xe_look (xc 156) 76 = some (.lreturn, 1, 0, 0, 0) := by decide +kernel
theorem vtt_77 : xe_look (xc 156) 77 = some (.iload 4, 2, 0, 0, 0) := by decide +kernel
theorem vtt_79 : xe_look (xc 156) 79 = some (.ifCond .eq 34, 3, 0, 0, 0) := by decide +kernel
theorem vtt_82 : xe_look (xc 156) 82 = some (.aload_n 0, 1, 0, 0, 0) := by decide +kernel
theorem vtt_83 : xe_look (xc 156) 83 = some (.getfield 63, 3, 11, 10, 1043) := by decide +kernel
theorem vtt_86 : xe_look (xc 156) 86 = some (.invokevirtual 264, 3, 0, 104, 1104) := by decide +kernel
theorem vtt_89 : xe_look (xc 156) 89 = some (.i2l, 1, 0, 0, 0) := by decide +kernel
theorem vtt_90 : xe_look (xc 156) 90 = some (.aload_n 0, 1, 0, 0, 0) := by decide +kernel
theorem vtt_91 : xe_look (xc 156) 91 = some (.getfield 63, 3, 11, 10, 1043) := by decide +kernel
theorem vtt_94 : xe_look (xc 156) 94 = some (.getfield 259, 3, 10, 0, 1103) := by decide +kernel
theorem vtt_97 : xe_look (xc 156) 97 = some (.i2l, 1, 0, 0, 0) := by decide +kernel
theorem vtt_98 : xe_look (xc 156) 98 = some (.iload_n 2, 1, 0, 0, 0) := by decide +kernel
theorem vtt_99 : xe_look (xc 156) 99 = some (.bipush 20, 2, 0, 0, 0) := by decide +kernel
theorem vtt_101 : xe_look (xc 156) 101 = some (.if_icmp .ne 7, 3, 0, 0, 0) := by decide +kernel
theorem vtt_104 : xe_look (xc 156) 104 = some (.iconst 1, 1, 0, 0, 0) := by decide +kernel
theorem vtt_105 : xe_look (xc 156) 105 = some (.goto 4, 3, 0, 0, 0) := by decide +kernel
theorem vtt_108 : xe_look (xc 156) 108 = some (.iconst 0, 1, 0, 0, 0) := by decide +kernel
theorem vtt_109 : xe_look (xc 156) 109 = some (.invokestatic 249, 3, 0, 138, 1024) := by decide +kernel
theorem vtt_112 : xe_look (xc 156) 112 = some (.lreturn, 1, 0, 0, 0) := by decide +kernel
theorem vtt_113 : xe_look (xc 156) 113 = some (.aload_n 0, 1, 0, 0, 0) := by decide +kernel
theorem vtt_114 : xe_look (xc 156) 114 = some (.getfield 63, 3, 11, 10, 1043) := by decide +kernel
theorem vtt_117 : xe_look (xc 156) 117 = some (.iload_n 2, 1, 0, 0, 0) := by decide +kernel
theorem vtt_118 : xe_look (xc 156) 118 = some (.invokevirtual 268, 3, 0, 108, 1105) := by decide +kernel
theorem vtt_121 : xe_look (xc 156) 121 = some (.i2l, 1, 0, 0, 0) := by decide +kernel
theorem vtt_122 : xe_look (xc 156) 122 = some (.lreturn, 1, 0, 0, 0) := by decide +kernel
theorem wF_m : (wF9.testBit (cn 196 + 0) = false ∧ wF9.testBit (cn 196 + 49) = false ∧ wF9.testBit (cn 196 + 35) = false) ∧ [199, 200, 201, 202, 210, 222, 223, 224, 225, 226].all (fun k => !wF9.testBit (cn k)) = true := by decide +kernel
theorem yveo_0 : eL[0]? = some (0, 11) := by decide +kernel
theorem yveo_177 : eL[177]? = some (0, 10) := by decide +kernel
theorem yveo_196 : eL[196]? = some (0, 12) := by decide +kernel
theorem yveo_2 : eL[2]? = some (0, 8) := by decide +kernel
theorem yvch_0_10 : (eG (cn 0 + 10)).2.2 = [178] := by decide +kernel
theorem yvcq_0_10 {d i : Nat} {lv : List (Nat × pv)} {r : List pv} {g : pH} (hG : g_I eG g) : px_push eL d none (.getfield i) 11 10 lv (pvR 0 :: r) g = some (pvR 177 :: r) := pget yveo_0 (gI_o (r := 177) hG yveo_0 (Nat.le_of_ble_eq_true rfl) (y := 10) rfl yvch_0_10)
theorem yvch_0_2 : (eG (cn 0 + 2)).2.2 = [3] := by decide +kernel
theorem yvcq_0_2 {d i : Nat} {lv : List (Nat × pv)} {r : List pv} {g : pH} (hG : g_I eG g) : px_push eL d none (.getfield i) 11 2 lv (pvR 0 :: r) g = some (pvR 2 :: r) := pget yveo_0 (gI_o (r := 2) hG yveo_0 (Nat.le_of_ble_eq_true rfl) (y := 2) rfl yvch_0_2)
theorem yvch_0_8 : (eG (cn 0 + 8)).2.2 = [165] := by decide +kernel
theorem yvcq_0_8 {d i : Nat} {lv : List (Nat × pv)} {r : List pv} {g : pH} (hG : g_I eG g) : px_push eL d none (.getfield i) 11 8 lv (pvR 0 :: r) g = some (pvR 164 :: r) := pget yveo_0 (gI_o (r := 164) hG yveo_0 (Nat.le_of_ble_eq_true rfl) (y := 8) rfl yvch_0_8)
theorem yvch_177_5 : (eG (cn 177 + 5)).2.2 = [183] := by decide +kernel
theorem yvcq_177_5 {d i : Nat} {lv : List (Nat × pv)} {r : List pv} {g : pH} (hG : g_I eG g) : px_push eL d none (.getfield i) 10 5 lv (pvR 177 :: r) g = some (pvR 182 :: r) := pget yveo_177 (gI_r (r := 182) hG yveo_177 (Nat.le_of_ble_eq_true rfl) (y := 5) rfl yvch_177_5)
theorem yvch_177_6 : (eG (cn 177 + 6)).2.2 = [184] := by decide +kernel
theorem yvcq_177_6 {d i : Nat} {lv : List (Nat × pv)} {r : List pv} {g : pH} (hG : g_I eG g) : px_push eL d none (.getfield i) 10 6 lv (pvR 177 :: r) g = some (pvR 183 :: r) := pget yveo_177 (gI_r (r := 183) hG yveo_177 (Nat.le_of_ble_eq_true rfl) (y := 6) rfl yvch_177_6)
theorem yvch_196_58 : (eG (cn 196 + 58)).2.2 = [233] := by decide +kernel
theorem yvcq_196_58 {d i : Nat} {lv : List (Nat × pv)} {r : List pv} {g : pH} (hG : g_I eG g) : px_push eL d none (.getfield i) 12 58 lv (pvR 196 :: r) g = some (pvR 232 :: r) := pget yveo_196 (gI_r (r := 232) hG yveo_196 (Nat.le_of_ble_eq_true rfl) (y := 58) rfl yvch_196_58)
theorem yvez_182 : eL[182]? = some (1, 2048) := by decide +kernel
theorem yvez_183 : eL[183]? = some (1, 7) := by decide +kernel
theorem yvez_232 : eL[232]? = some (1, 7) := by decide +kernel
theorem vle_run {d : Nat} {g : pH} (hG : g_I eG g) {v : Int} (hv : fA g 182 8 = v) {P : Option pv × pH → Prop} (hP : P (some (oI v), g)) {lv : List (Nat × pv)} (l0 : px_lg lv 0 = some (pvR 177)) : t_X d 104 0 lv [] g P := by
  refine t_0 vle_0 rfl (ld_a l0) ?_
  refine t_0 vle_1 rfl (yvcq_177_5 hG) ?_
  show t_X d 104 4 lv [pvR 182] g P
  refine t_0 vle_4 rfl (pq_b (by decide)) ?_
  refine t_0 vle_6 rfl (pq_iw (m := 8) yvez_182 rfl ⟨by omega, by omega⟩ hv) ?_
  show t_X d 104 7 lv [oI (v)] g P
  refine t_5 vle_7 rfl rfl ?_
  exact hP
theorem vta_run {d : Nat} (hd : 1 ≤ d) {g : pH} (hG : g_I eG g) {w : Nat} (hw : w ≤ 6) {v : Int} (hv : fA g 183 w = v) {P : Option pv × pH → Prop} (hP : P (some (oI v), g)) {lv : List (Nat × pv)} (l0 : px_lg lv 0 = some (pvR 177)) (l1 : px_lg lv 1 = some (oI (w : Int))) : t_X d 108 0 lv [] g P := by
  refine t_0 vta_0 rfl (ld_i l1) ?_
  refine t_0 vta_1 rfl rfl ?_
  refine t_0 vta_2 rfl (pq_b (by decide)) ?_
  refine t_3 vta_4 rfl (ar := ([oI ((w : Int)), oI 0, oI 6], [])) (pcal_s ⟨Or.inr rfl, rfl, Nat.le_of_ble_eq_true rfl⟩) ⟨by omega, Nat.le_of_ble_eq_true rfl, Nat.le_of_ble_eq_true rfl, rfl⟩ ?_
  refine ii_run ⟨by omega, by omega⟩ ⟨by omega, by omega⟩ ⟨by omega, by omega⟩ rfl rfl rfl (fun t1 => ?_) (fun t1 => absurd t1 (by omega))
  show t_X d 108 7 lv [oI 1] g P
  refine tz_eq vta_7 (by decide) ⟨by omega, by omega⟩ (fun c2 => absurd c2 (by omega)) (fun c2 => ?_)
  show t_X d 108 10 lv [] g P
  refine t_0 vta_10 rfl (ld_a l0) ?_
  refine t_0 vta_11 rfl (yvcq_177_6 hG) ?_
  show t_X d 108 14 lv [pvR 183] g P
  refine t_0 vta_14 rfl (ld_i l1) ?_
  refine t_0 vta_15 rfl (pq_iw (m := w) yvez_183 rfl ⟨by omega, by omega⟩ hv) ?_
  show t_X d 108 16 lv [oI (v)] g P
  refine t_1 vta_16 rfl (pb_goto (pc := 16) (by decide)) ?_
  show t_X d 108 20 lv [oI (v)] g P
  refine t_5 vta_20 rfl rfl ?_
  exact hP
set_option maxHeartbeats 1000000 in
theorem vtt_r {K : Nat} (hK : lK K) {m : Nat} (hm : m < 32) {ki ma ta wo : Int} {k1 c : Int} {o v le st co en : tC} {d : Nat} (hd : 10 ≤ d) {g0 : pH} (hG : g_I eG g0) (hSr : rS g0) (hs : sdC g0 m ki ma ta wo) (r0 : g0.2.2.1 164 0 = some K) (hL : rLc g0 K k1 c o v le st co en) {pic : tC} (h8 : cF g0 (4 + 2 * m) 8 = alB pic 8) (he : cF g0 (4 + 2 * m) 2 = 1) {h tk : Nat → Int} (eh : h = (fun w : Nat => aV o v (qF m ki ma ta wo w) le st co en c 119 99)) (et : tk = (fun w : Nat => aV o v (qF m ki ma ta wo w) le st co en c 116 99)) {P : Option pv × pH → Prop} (hZ : oS (fun _ => true) h 8 = 0 → ∀ g : pH, J_ wF9 g0 g → P (some (.inr (.inl (xe_k 9223372036854775806))), g)) {w : Nat} (hw : w ≤ 6) (hA9 : oS (fun _ => true) h 8 ≠ 0 → ∀ g : pH, J_ wF9 g0 g → P (some (.inr (.inl (Int64.ofInt (((gW h tk (alN pic) 1 0).getD w 0 : Nat) : Int)))), g)) {lv : List (Nat × pv)} (l0 : px_lg lv 0 = some (pvR 0)) (l1 : px_lg lv 1 = some (oI (m : Int))) (l2 : px_lg lv 2 = some (oI (w : Int))) : t_X d 156 0 lv [] g0 P := by
  have hh : ∀ k, 0 ≤ h k ∧ h k ≤ 99 := fun k => by rw [eh]; exact aV_b (by decide)
  have ht : ∀ k, 0 ≤ tk k ∧ tk k ≤ 99 := fun k => by rw [et]; exact aV_b (by decide)
  have sb := oS_b (b := fun _ => true) (by decide) hh 8
  have gv := gV_b (rt := alN pic) hh ht (set := 1) (last := 0) (by decide) (by decide) rfl
  refine t_0 vtt_0 rfl (ld_a l0) ?_
  refine t_0 vtt_1 rfl (yvcq_0_2 hG) ?_
  show t_X d 156 4 lv [pvR 2] g0 P
  refine t_0 vtt_4 rfl (ld_i l1) ?_
  refine t_3 vtt_5 rfl (ar := ([pvR 2, oI ((m : Int))], [])) (pcal_w (as := [oI ((m : Int))]) rfl rfl rfl yveo_2) ⟨by omega, Nat.le_of_ble_eq_true rfl, Nat.le_of_ble_eq_true rfl, rfl⟩ ?_
  refine td_run (by omega) hG hSr (by omega) (fun m9 hm9 x9 q9 => ?_) (fun q9 => absurd ⟨m, hm, rfl, he⟩ q9) rfl rfl
  obtain rfl : m = m9 := by omega
  show t_X d 156 8 lv [pvR (4 + 2 * m)] g0 P
  refine t_2 vtt_8 rfl (w := (px_s1 lv 3 (pvR (4 + 2 * m)), [])) rfl ?_
  replace l0 : px_lg (px_s1 lv 3 (pvR (4 + 2 * m))) 0 = some (pvR 0) := s1_ne (by decide) (fun _ => rfl) l0
  replace l1 : px_lg (px_s1 lv 3 (pvR (4 + 2 * m))) 1 = some (oI ((m : Int))) := s1_ne (by decide) (fun _ => rfl) l1
  replace l2 : px_lg (px_s1 lv 3 (pvR (4 + 2 * m))) 2 = some (oI ((w : Int))) := s1_ne (by decide) (fun _ => rfl) l2
  have l3 : px_lg (px_s1 lv 3 (pvR (4 + 2 * m))) 3 = some (pvR (4 + 2 * m)) := s1_eq
  generalize px_s1 lv 3 (pvR (4 + 2 * m)) = lv1 at l0 l1 l2 l3 ⊢
  show t_X d 156 9 lv1 [] g0 P
  refine t_0 vtt_9 rfl (ld_i l2) ?_
  refine t_0 vtt_10 rfl (pq_b (by decide)) ?_
  refine tb_eq vtt_12 (by decide) ⟨by omega, by omega⟩ ⟨by omega, by omega⟩ (fun c2 => absurd c2 (by omega)) (fun c2 => ?_)
  show t_X d 156 15 lv1 [] g0 P
  refine t_0 vtt_15 rfl (ld_i l2) ?_
  refine t_0 vtt_16 rfl (pq_b (by decide)) ?_
  refine tb_ne vtt_18 (by decide) ⟨by omega, by omega⟩ ⟨by omega, by omega⟩ (fun c3 => ?_) (fun c3 => absurd c3 (by omega))
  show t_X d 156 25 lv1 [] g0 P
  refine t_0 vtt_25 rfl rfl ?_
  refine t_2 vtt_26 rfl (w := (px_s1 lv1 4 (oI 0), [])) rfl ?_
  replace l0 : px_lg (px_s1 lv1 4 (oI 0)) 0 = some (pvR 0) := s1_ne (by decide) (fun _ => rfl) l0
  replace l1 : px_lg (px_s1 lv1 4 (oI 0)) 1 = some (oI ((m : Int))) := s1_ne (by decide) (fun _ => rfl) l1
  replace l2 : px_lg (px_s1 lv1 4 (oI 0)) 2 = some (oI ((w : Int))) := s1_ne (by decide) (fun _ => rfl) l2
  replace l3 : px_lg (px_s1 lv1 4 (oI 0)) 3 = some (pvR (4 + 2 * m)) := s1_ne (by decide) (fun _ => rfl) l3
  have l4 : px_lg (px_s1 lv1 4 (oI 0)) 4 = some (oI 0) := s1_eq
  generalize px_s1 lv1 4 (oI 0) = lv4 at l0 l1 l2 l3 l4 ⊢
  show t_X d 156 28 lv4 [] g0 P
  refine t_0 vtt_28 rfl (ld_a l3) ?_
  refine t_1 vtt_29 rfl (pn_nf (pc := 29) ) ?_
  show t_X d 156 32 lv4 [] g0 P
  refine t_0 vtt_32 rfl (ld_i l4) ?_
  refine tz_ne vtt_34 (by decide) ⟨by omega, by omega⟩ (fun c5 => absurd c5 (by omega)) (fun c5 => ?_)
  show t_X d 156 37 lv4 [] g0 P
  refine t_0 vtt_37 rfl (ld_i l2) ?_
  refine t_0 vtt_38 rfl rfl ?_
  refine t_0 vtt_39 rfl (pq_b (by decide)) ?_
  refine t_3 vtt_41 rfl (ar := ([oI ((w : Int)), oI 0, oI 6], [])) (pcal_s ⟨Or.inl rfl, rfl, Nat.le_of_ble_eq_true rfl⟩) ⟨by omega, Nat.le_of_ble_eq_true rfl, Nat.le_of_ble_eq_true rfl, rfl⟩ ?_
  refine ii_run ⟨by omega, by omega⟩ ⟨by omega, by omega⟩ ⟨by omega, by omega⟩ rfl rfl rfl (fun t6 => ?_) (fun t6 => absurd t6 (by omega))
  show t_X d 156 44 lv4 [oI 1] g0 P
  refine tz_ne vtt_44 (by decide) ⟨by omega, by omega⟩ (fun c7 => ?_) (fun c7 => absurd c7 (by omega))
  show t_X d 156 51 lv4 [] g0 P
  refine t_0 vtt_51 rfl (ld_a l0) ?_
  refine t_0 vtt_52 rfl (yvcq_0_10 hG) ?_
  show t_X d 156 55 lv4 [pvR 177] g0 P
  refine t_0 vtt_55 rfl (ld_a l3) ?_
  refine t_0 vtt_56 rfl (ld_a l0) ?_
  refine t_0 vtt_57 rfl (yvcq_0_8 hG) ?_
  show t_X d 156 60 lv4 [pvR 164, pvR (4 + 2 * m), pvR 177] g0 P
  refine t_3 vtt_60 rfl (ar := ([pvR 177, pvR (4 + 2 * m), pvR 164], [])) (pcal_w (as := [pvR 164, pvR (4 + 2 * m)]) rfl rfl rfl yveo_177) ⟨by omega, Nat.le_of_ble_eq_true rfl, Nat.le_of_ble_eq_true rfl, rfl⟩ ?_
  refine vfi_run hK hm (by omega) hG hs r0 hL h8 eh et (fun g9 J9 e9 z9 => ?_) (fun g9 J9 e9 n9 v9 r9 => ?_) rfl rfl rfl
  · show t_X d 156 63 lv4 [] g9 P
    refine t_0 vtt_63 rfl (ld_a l0) ?_
    refine t_0 vtt_64 rfl (yvcq_0_10 J9.1) ?_
    show t_X d 156 67 lv4 [pvR 177] g9 P
    refine t_0 vtt_67 rfl (pq_cv yveo_177 rfl e9) ?_
    show t_X d 156 70 lv4 [oI (oS (fun _ => true) h 8)] g9 P
    refine tz_ne vtt_70 (by decide) ⟨by omega, by omega⟩ (fun c8 => absurd c8 (by omega)) (fun c8 => ?_)
    show t_X d 156 73 lv4 [] g9 P
    refine t_0 vtt_73 rfl rfl ?_
    refine t_5 vtt_76 rfl rfl ?_
    exact hZ z9 g9 J9
  · obtain ⟨B, hB⟩ : ∃ z : Nat, oS (fun _ => true) h 8 = (z : Int) := ⟨(oS (fun _ => true) h 8).toNat, by omega⟩
    rw [hB] at e9 n9 sb
    have f9 := r9 w (by omega)
    have rb9 : -2147483648 ≤ (((gW h tk (alN pic) 1 0).getD w 0 : Nat) : Int) ∧ (((gW h tk (alN pic) 1 0).getD w 0 : Nat) : Int) ≤ 2147483647 := by rw [← f9]; exact i32_b _
    show t_X d 156 63 lv4 [] g9 P
    refine t_0 vtt_63 rfl (ld_a l0) ?_
    refine t_0 vtt_64 rfl (yvcq_0_10 J9.1) ?_
    show t_X d 156 67 lv4 [pvR 177] g9 P
    refine t_0 vtt_67 rfl (pq_cv yveo_177 rfl e9) ?_
    show t_X d 156 70 lv4 [oI (((B : Nat) : Int))] g9 P
    refine tz_ne vtt_70 (by decide) ⟨by omega, by omega⟩ (fun c9 => ?_) (fun c9 => absurd c9 (by omega))
    show t_X d 156 77 lv4 [] g9 P
    refine t_0 vtt_77 rfl (ld_i l4) ?_
    refine tz_eq vtt_79 (by decide) ⟨by omega, by omega⟩ (fun c10 => ?_) (fun c10 => absurd c10 (by omega))
    show t_X d 156 113 lv4 [] g9 P
    refine t_0 vtt_113 rfl (ld_a l0) ?_
    refine t_0 vtt_114 rfl (yvcq_0_10 J9.1) ?_
    show t_X d 156 117 lv4 [pvR 177] g9 P
    refine t_0 vtt_117 rfl (ld_i l2) ?_
    refine t_3 vtt_118 rfl (ar := ([pvR 177, oI ((w : Int))], [])) (pcal_w (as := [oI ((w : Int))]) rfl rfl rfl yveo_177) ⟨by omega, Nat.le_of_ble_eq_true rfl, Nat.le_of_ble_eq_true rfl, rfl⟩ ?_
    refine vta_run (by omega) J9.1 (by omega) f9 ?_ rfl rfl
    show t_X d 156 121 lv4 [oI ((((gW h tk (alN pic) 1 0).getD w 0 : Nat) : Int))] g9 P
    refine t_0 vtt_121 rfl (pq_il ⟨by omega, by omega⟩) ?_
    refine t_5 vtt_122 rfl rfl ?_
    exact hA9 (by omega) g9 J9
set_option maxHeartbeats 1000000 in
theorem vtt_a {K : Nat} (hK : lK K) {m : Nat} (hm : m < 32) {ki ma ta wo : Int} {k1 c : Int} {o v le st co en : tC} {d : Nat} (hd : 10 ≤ d) {g0 : pH} (hG : g_I eG g0) (hSr : rS g0) (hs : sdC g0 m ki ma ta wo) (r0 : g0.2.2.1 164 0 = some K) (hL : rLc g0 K k1 c o v le st co en) {pic : tC} (h8 : cF g0 (4 + 2 * m) 8 = alB pic 8) (he : cF g0 (4 + 2 * m) 2 = 1) {h tk : Nat → Int} (eh : h = (fun w : Nat => aV o v (qF m ki ma ta wo w) le st co en c 119 99)) (et : tk = (fun w : Nat => aV o v (qF m ki ma ta wo w) le st co en c 116 99)) {P : Option pv × pH → Prop} (hZ : oS (fun _ => true) h 8 = 0 → ∀ g : pH, J_ wF9 g0 g → P (some (.inr (.inl (xe_k 9223372036854775806))), g)) (hA9 : ∀ A B : Nat, gV h tk (alN pic) 1 0 = (A : Int) → oS (fun _ => true) h 8 = (B : Int) → 0 < B → ∀ g : pH, J_ wF9 g0 g → P (some (.inr (.inl (Int64.ofInt ((rdA A B : Nat) : Int)))), g)) {lv : List (Nat × pv)} (l0 : px_lg lv 0 = some (pvR 0)) (l1 : px_lg lv 1 = some (oI (m : Int))) (l2 : px_lg lv 2 = some (oI 20)) : t_X d 156 0 lv [] g0 P := by
  have hh : ∀ k, 0 ≤ h k ∧ h k ≤ 99 := fun k => by rw [eh]; exact aV_b (by decide)
  have ht : ∀ k, 0 ≤ tk k ∧ tk k ≤ 99 := fun k => by rw [et]; exact aV_b (by decide)
  have sb := oS_b (b := fun _ => true) (by decide) hh 8
  have gv := gV_b (rt := alN pic) hh ht (set := 1) (last := 0) (by decide) (by decide) rfl
  refine t_0 vtt_0 rfl (ld_a l0) ?_
  refine t_0 vtt_1 rfl (yvcq_0_2 hG) ?_
  show t_X d 156 4 lv [pvR 2] g0 P
  refine t_0 vtt_4 rfl (ld_i l1) ?_
  refine t_3 vtt_5 rfl (ar := ([pvR 2, oI ((m : Int))], [])) (pcal_w (as := [oI ((m : Int))]) rfl rfl rfl yveo_2) ⟨by omega, Nat.le_of_ble_eq_true rfl, Nat.le_of_ble_eq_true rfl, rfl⟩ ?_
  refine td_run (by omega) hG hSr (by omega) (fun m9 hm9 x9 q9 => ?_) (fun q9 => absurd ⟨m, hm, rfl, he⟩ q9) rfl rfl
  obtain rfl : m = m9 := by omega
  show t_X d 156 8 lv [pvR (4 + 2 * m)] g0 P
  refine t_2 vtt_8 rfl (w := (px_s1 lv 3 (pvR (4 + 2 * m)), [])) rfl ?_
  replace l0 : px_lg (px_s1 lv 3 (pvR (4 + 2 * m))) 0 = some (pvR 0) := s1_ne (by decide) (fun _ => rfl) l0
  replace l1 : px_lg (px_s1 lv 3 (pvR (4 + 2 * m))) 1 = some (oI ((m : Int))) := s1_ne (by decide) (fun _ => rfl) l1
  replace l2 : px_lg (px_s1 lv 3 (pvR (4 + 2 * m))) 2 = some (oI 20) := s1_ne (by decide) (fun _ => rfl) l2
  have l3 : px_lg (px_s1 lv 3 (pvR (4 + 2 * m))) 3 = some (pvR (4 + 2 * m)) := s1_eq
  generalize px_s1 lv 3 (pvR (4 + 2 * m)) = lv1 at l0 l1 l2 l3 ⊢
  show t_X d 156 9 lv1 [] g0 P
  refine t_0 vtt_9 rfl (ld_i l2) ?_
  refine t_0 vtt_10 rfl (pq_b (by decide)) ?_
  refine tb_eq vtt_12 (by decide) ⟨by omega, by omega⟩ ⟨by omega, by omega⟩ (fun c2 => ?_) (fun c2 => absurd c2 (by omega))
  show t_X d 156 21 lv1 [] g0 P
  refine t_0 vtt_21 rfl rfl ?_
  refine t_1 vtt_22 rfl (pb_goto (pc := 22) (by decide)) ?_
  show t_X d 156 26 lv1 [oI 1] g0 P
  refine t_2 vtt_26 rfl (w := (px_s1 lv1 4 (oI 1), [])) rfl ?_
  replace l0 : px_lg (px_s1 lv1 4 (oI 1)) 0 = some (pvR 0) := s1_ne (by decide) (fun _ => rfl) l0
  replace l1 : px_lg (px_s1 lv1 4 (oI 1)) 1 = some (oI ((m : Int))) := s1_ne (by decide) (fun _ => rfl) l1
  replace l2 : px_lg (px_s1 lv1 4 (oI 1)) 2 = some (oI 20) := s1_ne (by decide) (fun _ => rfl) l2
  replace l3 : px_lg (px_s1 lv1 4 (oI 1)) 3 = some (pvR (4 + 2 * m)) := s1_ne (by decide) (fun _ => rfl) l3
  have l4 : px_lg (px_s1 lv1 4 (oI 1)) 4 = some (oI 1) := s1_eq
  generalize px_s1 lv1 4 (oI 1) = lv3 at l0 l1 l2 l3 l4 ⊢
  show t_X d 156 28 lv3 [] g0 P
  refine t_0 vtt_28 rfl (ld_a l3) ?_
  refine t_1 vtt_29 rfl (pn_nf (pc := 29) ) ?_
  show t_X d 156 32 lv3 [] g0 P
  refine t_0 vtt_32 rfl (ld_i l4) ?_
  refine tz_ne vtt_34 (by decide) ⟨by omega, by omega⟩ (fun c4 => ?_) (fun c4 => absurd c4 (by omega))
  show t_X d 156 51 lv3 [] g0 P
  refine t_0 vtt_51 rfl (ld_a l0) ?_
  refine t_0 vtt_52 rfl (yvcq_0_10 hG) ?_
  show t_X d 156 55 lv3 [pvR 177] g0 P
  refine t_0 vtt_55 rfl (ld_a l3) ?_
  refine t_0 vtt_56 rfl (ld_a l0) ?_
  refine t_0 vtt_57 rfl (yvcq_0_8 hG) ?_
  show t_X d 156 60 lv3 [pvR 164, pvR (4 + 2 * m), pvR 177] g0 P
  refine t_3 vtt_60 rfl (ar := ([pvR 177, pvR (4 + 2 * m), pvR 164], [])) (pcal_w (as := [pvR 164, pvR (4 + 2 * m)]) rfl rfl rfl yveo_177) ⟨by omega, Nat.le_of_ble_eq_true rfl, Nat.le_of_ble_eq_true rfl, rfl⟩ ?_
  refine vfi_run hK hm (by omega) hG hs r0 hL h8 eh et (fun g9 J9 e9 z9 => ?_) (fun g9 J9 e9 n9 v9 r9 => ?_) rfl rfl rfl
  · show t_X d 156 63 lv3 [] g9 P
    refine t_0 vtt_63 rfl (ld_a l0) ?_
    refine t_0 vtt_64 rfl (yvcq_0_10 J9.1) ?_
    show t_X d 156 67 lv3 [pvR 177] g9 P
    refine t_0 vtt_67 rfl (pq_cv yveo_177 rfl e9) ?_
    show t_X d 156 70 lv3 [oI (oS (fun _ => true) h 8)] g9 P
    refine tz_ne vtt_70 (by decide) ⟨by omega, by omega⟩ (fun c5 => absurd c5 (by omega)) (fun c5 => ?_)
    show t_X d 156 73 lv3 [] g9 P
    refine t_0 vtt_73 rfl rfl ?_
    refine t_5 vtt_76 rfl rfl ?_
    exact hZ z9 g9 J9
  · obtain ⟨B, hB⟩ : ∃ z : Nat, oS (fun _ => true) h 8 = (z : Int) := ⟨(oS (fun _ => true) h 8).toNat, by omega⟩
    rw [hB] at e9 n9 sb
    obtain ⟨A, hA⟩ : ∃ z : Nat, gV h tk (alN pic) 1 0 = (z : Int) := ⟨(gV h tk (alN pic) 1 0).toNat, by omega⟩
    rw [hA] at v9 gv
    show t_X d 156 63 lv3 [] g9 P
    refine t_0 vtt_63 rfl (ld_a l0) ?_
    refine t_0 vtt_64 rfl (yvcq_0_10 J9.1) ?_
    show t_X d 156 67 lv3 [pvR 177] g9 P
    refine t_0 vtt_67 rfl (pq_cv yveo_177 rfl e9) ?_
    show t_X d 156 70 lv3 [oI (((B : Nat) : Int))] g9 P
    refine tz_ne vtt_70 (by decide) ⟨by omega, by omega⟩ (fun c6 => ?_) (fun c6 => absurd c6 (by omega))
    show t_X d 156 77 lv3 [] g9 P
    refine t_0 vtt_77 rfl (ld_i l4) ?_
    refine tz_eq vtt_79 (by decide) ⟨by omega, by omega⟩ (fun c7 => absurd c7 (by omega)) (fun c7 => ?_)
    show t_X d 156 82 lv3 [] g9 P
    refine t_0 vtt_82 rfl (ld_a l0) ?_
    refine t_0 vtt_83 rfl (yvcq_0_10 J9.1) ?_
    show t_X d 156 86 lv3 [pvR 177] g9 P
    refine t_3 vtt_86 rfl (ar := ([pvR 177], [])) (pcal_w (as := []) rfl rfl rfl yveo_177) ⟨by omega, Nat.le_of_ble_eq_true rfl, Nat.le_of_ble_eq_true rfl, rfl⟩ ?_
    refine vle_run J9.1 v9 ?_ rfl
    show t_X d 156 89 lv3 [oI (((A : Nat) : Int))] g9 P
    refine t_0 vtt_89 rfl (pq_il ⟨by omega, by omega⟩) ?_
    refine t_0 vtt_90 rfl (ld_a l0) ?_
    refine t_0 vtt_91 rfl (yvcq_0_10 J9.1) ?_
    show t_X d 156 94 lv3 [pvR 177, .inr (.inl (Int64.ofInt (((A : Nat) : Int))))] g9 P
    refine t_0 vtt_94 rfl (pq_cv yveo_177 rfl e9) ?_
    show t_X d 156 97 lv3 [oI (((B : Nat) : Int)), .inr (.inl (Int64.ofInt (((A : Nat) : Int))))] g9 P
    refine t_0 vtt_97 rfl (pq_il ⟨by omega, by omega⟩) ?_
    refine t_0 vtt_98 rfl (ld_i l2) ?_
    refine t_0 vtt_99 rfl (pq_b (by decide)) ?_
    refine tb_ne vtt_101 (by decide) ⟨by omega, by omega⟩ ⟨by omega, by omega⟩ (fun c8 => absurd c8 (by omega)) (fun c8 => ?_)
    show t_X d 156 104 lv3 [.inr (.inl (Int64.ofInt (((B : Nat) : Int)))), .inr (.inl (Int64.ofInt (((A : Nat) : Int))))] g9 P
    refine t_0 vtt_104 rfl rfl ?_
    refine t_1 vtt_105 rfl (pb_goto (pc := 105) (by decide)) ?_
    show t_X d 156 109 lv3 [oI 1, .inr (.inl (Int64.ofInt (((B : Nat) : Int)))), .inr (.inl (Int64.ofInt (((A : Nat) : Int))))] g9 P
    refine t_3 vtt_109 rfl (ar := ([.inr (.inl (Int64.ofInt (((A : Nat) : Int)))), .inr (.inl (Int64.ofInt (((B : Nat) : Int)))), oI 1], [])) (pcal_s ⟨Or.inl rfl, rfl, Nat.le_of_ble_eq_true rfl⟩) ⟨by omega, Nat.le_of_ble_eq_true rfl, Nat.le_of_ble_eq_true rfl, rfl⟩ ?_
    refine vpo_r1 (by omega) (by omega) (by omega) (gD_l (by omega)) (Or.inr (by omega)) ?_ rfl rfl rfl
    rw [(gS_a (by omega)).1]
    show t_X d 156 112 lv3 [.inr (.inl (Int64.ofInt ((rdA A B : Nat) : Int)))] g9 P
    refine t_5 vtt_112 rfl rfl ?_
    exact hA9 A B hA hB (by omega) g9 J9
set_option maxHeartbeats 1000000 in
theorem vtt_b {K : Nat} (hK : lK K) {m : Nat} (hm : m < 32) {ki ma ta wo : Int} {k1 c : Int} {o v le st co en : tC} {d : Nat} (hd : 10 ≤ d) {g0 : pH} (hG : g_I eG g0) (hSr : rS g0) (hs : sdC g0 m ki ma ta wo) (r0 : g0.2.2.1 164 0 = some K) (hL : rLc g0 K k1 c o v le st co en) {pic : tC} (h8 : cF g0 (4 + 2 * m) 8 = alB pic 8) (he : cF g0 (4 + 2 * m) 2 = 1) {h tk : Nat → Int} (eh : h = (fun w : Nat => aV o v (qF m ki ma ta wo w) le st co en c 119 99)) (et : tk = (fun w : Nat => aV o v (qF m ki ma ta wo w) le st co en c 116 99)) {P : Option pv × pH → Prop} (hZ : oS (fun _ => true) h 8 = 0 → ∀ g : pH, J_ wF9 g0 g → P (some (.inr (.inl (xe_k 9223372036854775806))), g)) (hA9 : ∀ A B : Nat, gV h tk (alN pic) 1 0 = (A : Int) → oS (fun _ => true) h 8 = (B : Int) → 0 < B → ∀ g : pH, J_ wF9 g0 g → P (some (.inr (.inl (Int64.ofInt ((rdB A B : Nat) : Int)))), g)) {lv : List (Nat × pv)} (l0 : px_lg lv 0 = some (pvR 0)) (l1 : px_lg lv 1 = some (oI (m : Int))) (l2 : px_lg lv 2 = some (oI 21)) : t_X d 156 0 lv [] g0 P := by
  have hh : ∀ k, 0 ≤ h k ∧ h k ≤ 99 := fun k => by rw [eh]; exact aV_b (by decide)
  have ht : ∀ k, 0 ≤ tk k ∧ tk k ≤ 99 := fun k => by rw [et]; exact aV_b (by decide)
  have sb := oS_b (b := fun _ => true) (by decide) hh 8
  have gv := gV_b (rt := alN pic) hh ht (set := 1) (last := 0) (by decide) (by decide) rfl
  refine t_0 vtt_0 rfl (ld_a l0) ?_
  refine t_0 vtt_1 rfl (yvcq_0_2 hG) ?_
  show t_X d 156 4 lv [pvR 2] g0 P
  refine t_0 vtt_4 rfl (ld_i l1) ?_
  refine t_3 vtt_5 rfl (ar := ([pvR 2, oI ((m : Int))], [])) (pcal_w (as := [oI ((m : Int))]) rfl rfl rfl yveo_2) ⟨by omega, Nat.le_of_ble_eq_true rfl, Nat.le_of_ble_eq_true rfl, rfl⟩ ?_
  refine td_run (by omega) hG hSr (by omega) (fun m9 hm9 x9 q9 => ?_) (fun q9 => absurd ⟨m, hm, rfl, he⟩ q9) rfl rfl
  obtain rfl : m = m9 := by omega
  show t_X d 156 8 lv [pvR (4 + 2 * m)] g0 P
  refine t_2 vtt_8 rfl (w := (px_s1 lv 3 (pvR (4 + 2 * m)), [])) rfl ?_
  replace l0 : px_lg (px_s1 lv 3 (pvR (4 + 2 * m))) 0 = some (pvR 0) := s1_ne (by decide) (fun _ => rfl) l0
  replace l1 : px_lg (px_s1 lv 3 (pvR (4 + 2 * m))) 1 = some (oI ((m : Int))) := s1_ne (by decide) (fun _ => rfl) l1
  replace l2 : px_lg (px_s1 lv 3 (pvR (4 + 2 * m))) 2 = some (oI 21) := s1_ne (by decide) (fun _ => rfl) l2
  have l3 : px_lg (px_s1 lv 3 (pvR (4 + 2 * m))) 3 = some (pvR (4 + 2 * m)) := s1_eq
  generalize px_s1 lv 3 (pvR (4 + 2 * m)) = lv1 at l0 l1 l2 l3 ⊢
  show t_X d 156 9 lv1 [] g0 P
  refine t_0 vtt_9 rfl (ld_i l2) ?_
  refine t_0 vtt_10 rfl (pq_b (by decide)) ?_
  refine tb_eq vtt_12 (by decide) ⟨by omega, by omega⟩ ⟨by omega, by omega⟩ (fun c2 => absurd c2 (by omega)) (fun c2 => ?_)
  show t_X d 156 15 lv1 [] g0 P
  refine t_0 vtt_15 rfl (ld_i l2) ?_
  refine t_0 vtt_16 rfl (pq_b (by decide)) ?_
  refine tb_ne vtt_18 (by decide) ⟨by omega, by omega⟩ ⟨by omega, by omega⟩ (fun c3 => absurd c3 (by omega)) (fun c3 => ?_)
  show t_X d 156 21 lv1 [] g0 P
  refine t_0 vtt_21 rfl rfl ?_
  refine t_1 vtt_22 rfl (pb_goto (pc := 22) (by decide)) ?_
  show t_X d 156 26 lv1 [oI 1] g0 P
  refine t_2 vtt_26 rfl (w := (px_s1 lv1 4 (oI 1), [])) rfl ?_
  replace l0 : px_lg (px_s1 lv1 4 (oI 1)) 0 = some (pvR 0) := s1_ne (by decide) (fun _ => rfl) l0
  replace l1 : px_lg (px_s1 lv1 4 (oI 1)) 1 = some (oI ((m : Int))) := s1_ne (by decide) (fun _ => rfl) l1
  replace l2 : px_lg (px_s1 lv1 4 (oI 1)) 2 = some (oI 21) := s1_ne (by decide) (fun _ => rfl) l2
  replace l3 : px_lg (px_s1 lv1 4 (oI 1)) 3 = some (pvR (4 + 2 * m)) := s1_ne (by decide) (fun _ => rfl) l3
  have l4 : px_lg (px_s1 lv1 4 (oI 1)) 4 = some (oI 1) := s1_eq
  generalize px_s1 lv1 4 (oI 1) = lv4 at l0 l1 l2 l3 l4 ⊢
  show t_X d 156 28 lv4 [] g0 P
  refine t_0 vtt_28 rfl (ld_a l3) ?_
  refine t_1 vtt_29 rfl (pn_nf (pc := 29) ) ?_
  show t_X d 156 32 lv4 [] g0 P
  refine t_0 vtt_32 rfl (ld_i l4) ?_
  refine tz_ne vtt_34 (by decide) ⟨by omega, by omega⟩ (fun c5 => ?_) (fun c5 => absurd c5 (by omega))
  show t_X d 156 51 lv4 [] g0 P
  refine t_0 vtt_51 rfl (ld_a l0) ?_
  refine t_0 vtt_52 rfl (yvcq_0_10 hG) ?_
  show t_X d 156 55 lv4 [pvR 177] g0 P
  refine t_0 vtt_55 rfl (ld_a l3) ?_
  refine t_0 vtt_56 rfl (ld_a l0) ?_
  refine t_0 vtt_57 rfl (yvcq_0_8 hG) ?_
  show t_X d 156 60 lv4 [pvR 164, pvR (4 + 2 * m), pvR 177] g0 P
  refine t_3 vtt_60 rfl (ar := ([pvR 177, pvR (4 + 2 * m), pvR 164], [])) (pcal_w (as := [pvR 164, pvR (4 + 2 * m)]) rfl rfl rfl yveo_177) ⟨by omega, Nat.le_of_ble_eq_true rfl, Nat.le_of_ble_eq_true rfl, rfl⟩ ?_
  refine vfi_run hK hm (by omega) hG hs r0 hL h8 eh et (fun g9 J9 e9 z9 => ?_) (fun g9 J9 e9 n9 v9 r9 => ?_) rfl rfl rfl
  · show t_X d 156 63 lv4 [] g9 P
    refine t_0 vtt_63 rfl (ld_a l0) ?_
    refine t_0 vtt_64 rfl (yvcq_0_10 J9.1) ?_
    show t_X d 156 67 lv4 [pvR 177] g9 P
    refine t_0 vtt_67 rfl (pq_cv yveo_177 rfl e9) ?_
    show t_X d 156 70 lv4 [oI (oS (fun _ => true) h 8)] g9 P
    refine tz_ne vtt_70 (by decide) ⟨by omega, by omega⟩ (fun c6 => absurd c6 (by omega)) (fun c6 => ?_)
    show t_X d 156 73 lv4 [] g9 P
    refine t_0 vtt_73 rfl rfl ?_
    refine t_5 vtt_76 rfl rfl ?_
    exact hZ z9 g9 J9
  · obtain ⟨B, hB⟩ : ∃ z : Nat, oS (fun _ => true) h 8 = (z : Int) := ⟨(oS (fun _ => true) h 8).toNat, by omega⟩
    rw [hB] at e9 n9 sb
    obtain ⟨A, hA⟩ : ∃ z : Nat, gV h tk (alN pic) 1 0 = (z : Int) := ⟨(gV h tk (alN pic) 1 0).toNat, by omega⟩
    rw [hA] at v9 gv
    show t_X d 156 63 lv4 [] g9 P
    refine t_0 vtt_63 rfl (ld_a l0) ?_
    refine t_0 vtt_64 rfl (yvcq_0_10 J9.1) ?_
    show t_X d 156 67 lv4 [pvR 177] g9 P
    refine t_0 vtt_67 rfl (pq_cv yveo_177 rfl e9) ?_
    show t_X d 156 70 lv4 [oI (((B : Nat) : Int))] g9 P
    refine tz_ne vtt_70 (by decide) ⟨by omega, by omega⟩ (fun c7 => ?_) (fun c7 => absurd c7 (by omega))
    show t_X d 156 77 lv4 [] g9 P
    refine t_0 vtt_77 rfl (ld_i l4) ?_
    refine tz_eq vtt_79 (by decide) ⟨by omega, by omega⟩ (fun c8 => absurd c8 (by omega)) (fun c8 => ?_)
    show t_X d 156 82 lv4 [] g9 P
    refine t_0 vtt_82 rfl (ld_a l0) ?_
    refine t_0 vtt_83 rfl (yvcq_0_10 J9.1) ?_
    show t_X d 156 86 lv4 [pvR 177] g9 P
    refine t_3 vtt_86 rfl (ar := ([pvR 177], [])) (pcal_w (as := []) rfl rfl rfl yveo_177) ⟨by omega, Nat.le_of_ble_eq_true rfl, Nat.le_of_ble_eq_true rfl, rfl⟩ ?_
    refine vle_run J9.1 v9 ?_ rfl
    show t_X d 156 89 lv4 [oI (((A : Nat) : Int))] g9 P
    refine t_0 vtt_89 rfl (pq_il ⟨by omega, by omega⟩) ?_
    refine t_0 vtt_90 rfl (ld_a l0) ?_
    refine t_0 vtt_91 rfl (yvcq_0_10 J9.1) ?_
    show t_X d 156 94 lv4 [pvR 177, .inr (.inl (Int64.ofInt (((A : Nat) : Int))))] g9 P
    refine t_0 vtt_94 rfl (pq_cv yveo_177 rfl e9) ?_
    show t_X d 156 97 lv4 [oI (((B : Nat) : Int)), .inr (.inl (Int64.ofInt (((A : Nat) : Int))))] g9 P
    refine t_0 vtt_97 rfl (pq_il ⟨by omega, by omega⟩) ?_
    refine t_0 vtt_98 rfl (ld_i l2) ?_
    refine t_0 vtt_99 rfl (pq_b (by decide)) ?_
    refine tb_ne vtt_101 (by decide) ⟨by omega, by omega⟩ ⟨by omega, by omega⟩ (fun c9 => ?_) (fun c9 => absurd c9 (by omega))
    show t_X d 156 108 lv4 [.inr (.inl (Int64.ofInt (((B : Nat) : Int)))), .inr (.inl (Int64.ofInt (((A : Nat) : Int))))] g9 P
    refine t_0 vtt_108 rfl rfl ?_
    refine t_3 vtt_109 rfl (ar := ([.inr (.inl (Int64.ofInt (((A : Nat) : Int)))), .inr (.inl (Int64.ofInt (((B : Nat) : Int)))), oI 0], [])) (pcal_s ⟨Or.inl rfl, rfl, Nat.le_of_ble_eq_true rfl⟩) ⟨by omega, Nat.le_of_ble_eq_true rfl, Nat.le_of_ble_eq_true rfl, rfl⟩ ?_
    refine vpo_r0 (by omega) (by omega) (by omega) (gD_l (by omega)) (Or.inr (by omega)) ?_ rfl rfl rfl
    rw [(gS_a (by omega)).2]
    show t_X d 156 112 lv4 [.inr (.inl (Int64.ofInt ((rdB A B : Nat) : Int)))] g9 P
    refine t_5 vtt_112 rfl rfl ?_
    exact hA9 A B hA hB (by omega) g9 J9
theorem vtt_n {d : Nat} (hd : 2 ≤ d) {g0 : pH} (hG : g_I eG g0) (hSr : rS g0) {i what : Int} (hi : -2147483648 ≤ i ∧ i ≤ 2147483647) (hw : -2147483648 ≤ what ∧ what ≤ 2147483647) (hC : ¬ (toC g0 i ∧ ((0 ≤ what ∧ what ≤ 6) ∨ what = 20 ∨ what = 21))) {P : Option pv × pH → Prop} (hP : P (some (.inr (.inl (xe_k 9223372036854775807))), g0)) {lv : List (Nat × pv)} (l0 : px_lg lv 0 = some (pvR 0)) (l1 : px_lg lv 1 = some (oI i)) (l2 : px_lg lv 2 = some (oI what)) : t_X d 156 0 lv [] g0 P := by
  refine t_0 vtt_0 rfl (ld_a l0) ?_
  refine t_0 vtt_1 rfl (yvcq_0_2 hG) ?_
  show t_X d 156 4 lv [pvR 2] g0 P
  refine t_0 vtt_4 rfl (ld_i l1) ?_
  refine t_3 vtt_5 rfl (ar := ([pvR 2, oI (i)], [])) (pcal_w (as := [oI (i)]) rfl rfl rfl yveo_2) ⟨by omega, Nat.le_of_ble_eq_true rfl, Nat.le_of_ble_eq_true rfl, rfl⟩ ?_
  refine td_run (by omega) hG hSr hi (fun m9 hm9 x9 q9 => ?_) (fun q9 => ?_) rfl rfl
  · show t_X d 156 8 lv [pvR (4 + 2 * m9)] g0 P
    refine t_2 vtt_8 rfl (w := (px_s1 lv 3 (pvR (4 + 2 * m9)), [])) rfl ?_
    replace l0 : px_lg (px_s1 lv 3 (pvR (4 + 2 * m9))) 0 = some (pvR 0) := s1_ne (by decide) (fun _ => rfl) l0
    replace l1 : px_lg (px_s1 lv 3 (pvR (4 + 2 * m9))) 1 = some (oI (i)) := s1_ne (by decide) (fun _ => rfl) l1
    replace l2 : px_lg (px_s1 lv 3 (pvR (4 + 2 * m9))) 2 = some (oI (what)) := s1_ne (by decide) (fun _ => rfl) l2
    have l3 : px_lg (px_s1 lv 3 (pvR (4 + 2 * m9))) 3 = some (pvR (4 + 2 * m9)) := s1_eq
    generalize px_s1 lv 3 (pvR (4 + 2 * m9)) = lv1 at l0 l1 l2 l3 ⊢
    show t_X d 156 9 lv1 [] g0 P
    refine t_0 vtt_9 rfl (ld_i l2) ?_
    refine t_0 vtt_10 rfl (pq_b (by decide)) ?_
    refine tb_eq vtt_12 (by decide) ⟨by omega, by omega⟩ ⟨by omega, by omega⟩ (fun c2 => ?_) (fun c2 => ?_)
    · show t_X d 156 21 lv1 [] g0 P
      refine t_0 vtt_21 rfl rfl ?_
      refine t_1 vtt_22 rfl (pb_goto (pc := 22) (by decide)) ?_
      show t_X d 156 26 lv1 [oI 1] g0 P
      refine t_2 vtt_26 rfl (w := (px_s1 lv1 4 (oI 1), [])) rfl ?_
      replace l0 : px_lg (px_s1 lv1 4 (oI 1)) 0 = some (pvR 0) := s1_ne (by decide) (fun _ => rfl) l0
      replace l1 : px_lg (px_s1 lv1 4 (oI 1)) 1 = some (oI (i)) := s1_ne (by decide) (fun _ => rfl) l1
      replace l2 : px_lg (px_s1 lv1 4 (oI 1)) 2 = some (oI (what)) := s1_ne (by decide) (fun _ => rfl) l2
      replace l3 : px_lg (px_s1 lv1 4 (oI 1)) 3 = some (pvR (4 + 2 * m9)) := s1_ne (by decide) (fun _ => rfl) l3
      have l4 : px_lg (px_s1 lv1 4 (oI 1)) 4 = some (oI 1) := s1_eq
      generalize px_s1 lv1 4 (oI 1) = lv3 at l0 l1 l2 l3 l4 ⊢
      show t_X d 156 28 lv3 [] g0 P
      refine t_0 vtt_28 rfl (ld_a l3) ?_
      refine t_1 vtt_29 rfl (pn_nf (pc := 29) ) ?_
      show t_X d 156 32 lv3 [] g0 P
      refine t_0 vtt_32 rfl (ld_i l4) ?_
      refine tz_ne vtt_34 (by decide) ⟨by omega, by omega⟩ (fun c4 => ?_) (fun c4 => absurd c4 (by omega))
      show t_X d 156 51 lv3 [] g0 P
      exact absurd ⟨⟨m9, hm9, x9, q9⟩, by omega⟩ hC
    · show t_X d 156 15 lv1 [] g0 P
      refine t_0 vtt_15 rfl (ld_i l2) ?_
      refine t_0 vtt_16 rfl (pq_b (by decide)) ?_
      refine tb_ne vtt_18 (by decide) ⟨by omega, by omega⟩ ⟨by omega, by omega⟩ (fun c5 => ?_) (fun c5 => ?_)
      · show t_X d 156 25 lv1 [] g0 P
        refine t_0 vtt_25 rfl rfl ?_
        refine t_2 vtt_26 rfl (w := (px_s1 lv1 4 (oI 0), [])) rfl ?_
        replace l0 : px_lg (px_s1 lv1 4 (oI 0)) 0 = some (pvR 0) := s1_ne (by decide) (fun _ => rfl) l0
        replace l1 : px_lg (px_s1 lv1 4 (oI 0)) 1 = some (oI (i)) := s1_ne (by decide) (fun _ => rfl) l1
        replace l2 : px_lg (px_s1 lv1 4 (oI 0)) 2 = some (oI (what)) := s1_ne (by decide) (fun _ => rfl) l2
        replace l3 : px_lg (px_s1 lv1 4 (oI 0)) 3 = some (pvR (4 + 2 * m9)) := s1_ne (by decide) (fun _ => rfl) l3
        have l4 : px_lg (px_s1 lv1 4 (oI 0)) 4 = some (oI 0) := s1_eq
        generalize px_s1 lv1 4 (oI 0) = lv6 at l0 l1 l2 l3 l4 ⊢
        show t_X d 156 28 lv6 [] g0 P
        refine t_0 vtt_28 rfl (ld_a l3) ?_
        refine t_1 vtt_29 rfl (pn_nf (pc := 29) ) ?_
        show t_X d 156 32 lv6 [] g0 P
        refine t_0 vtt_32 rfl (ld_i l4) ?_
        refine tz_ne vtt_34 (by decide) ⟨by omega, by omega⟩ (fun c7 => absurd c7 (by omega)) (fun c7 => ?_)
        show t_X d 156 37 lv6 [] g0 P
        refine t_0 vtt_37 rfl (ld_i l2) ?_
        refine t_0 vtt_38 rfl rfl ?_
        refine t_0 vtt_39 rfl (pq_b (by decide)) ?_
        refine t_3 vtt_41 rfl (ar := ([oI (what), oI 0, oI 6], [])) (pcal_s ⟨Or.inl rfl, rfl, Nat.le_of_ble_eq_true rfl⟩) ⟨by omega, Nat.le_of_ble_eq_true rfl, Nat.le_of_ble_eq_true rfl, rfl⟩ ?_
        refine ii_run ⟨by omega, by omega⟩ ⟨by omega, by omega⟩ ⟨by omega, by omega⟩ rfl rfl rfl (fun t8 => ?_) (fun t8 => ?_)
        · show t_X d 156 44 lv6 [oI 1] g0 P
          refine tz_ne vtt_44 (by decide) ⟨by omega, by omega⟩ (fun c9 => ?_) (fun c9 => absurd c9 (by omega))
          show t_X d 156 51 lv6 [] g0 P
          exact absurd ⟨⟨m9, hm9, x9, q9⟩, by omega⟩ hC
        · show t_X d 156 44 lv6 [oI 0] g0 P
          refine tz_ne vtt_44 (by decide) ⟨by omega, by omega⟩ (fun c10 => absurd c10 (by omega)) (fun c10 => ?_)
          show t_X d 156 47 lv6 [] g0 P
          refine t_0 vtt_47 rfl rfl ?_
          refine t_5 vtt_50 rfl rfl ?_
          exact hP
      · show t_X d 156 21 lv1 [] g0 P
        refine t_0 vtt_21 rfl rfl ?_
        refine t_1 vtt_22 rfl (pb_goto (pc := 22) (by decide)) ?_
        show t_X d 156 26 lv1 [oI 1] g0 P
        refine t_2 vtt_26 rfl (w := (px_s1 lv1 4 (oI 1), [])) rfl ?_
        replace l0 : px_lg (px_s1 lv1 4 (oI 1)) 0 = some (pvR 0) := s1_ne (by decide) (fun _ => rfl) l0
        replace l1 : px_lg (px_s1 lv1 4 (oI 1)) 1 = some (oI (i)) := s1_ne (by decide) (fun _ => rfl) l1
        replace l2 : px_lg (px_s1 lv1 4 (oI 1)) 2 = some (oI (what)) := s1_ne (by decide) (fun _ => rfl) l2
        replace l3 : px_lg (px_s1 lv1 4 (oI 1)) 3 = some (pvR (4 + 2 * m9)) := s1_ne (by decide) (fun _ => rfl) l3
        have l4 : px_lg (px_s1 lv1 4 (oI 1)) 4 = some (oI 1) := s1_eq
        generalize px_s1 lv1 4 (oI 1) = lv11 at l0 l1 l2 l3 l4 ⊢
        show t_X d 156 28 lv11 [] g0 P
        refine t_0 vtt_28 rfl (ld_a l3) ?_
        refine t_1 vtt_29 rfl (pn_nf (pc := 29) ) ?_
        show t_X d 156 32 lv11 [] g0 P
        refine t_0 vtt_32 rfl (ld_i l4) ?_
        refine tz_ne vtt_34 (by decide) ⟨by omega, by omega⟩ (fun c12 => ?_) (fun c12 => absurd c12 (by omega))
        show t_X d 156 51 lv11 [] g0 P
        exact absurd ⟨⟨m9, hm9, x9, q9⟩, by omega⟩ hC
  · show t_X d 156 8 lv [.inr (.inr none)] g0 P
    refine t_2 vtt_8 rfl (w := (px_s1 lv 3 (.inr (.inr none)), [])) rfl ?_
    replace l0 : px_lg (px_s1 lv 3 (.inr (.inr none))) 0 = some (pvR 0) := s1_ne (by decide) (fun _ => rfl) l0
    replace l1 : px_lg (px_s1 lv 3 (.inr (.inr none))) 1 = some (oI (i)) := s1_ne (by decide) (fun _ => rfl) l1
    replace l2 : px_lg (px_s1 lv 3 (.inr (.inr none))) 2 = some (oI (what)) := s1_ne (by decide) (fun _ => rfl) l2
    have l3 : px_lg (px_s1 lv 3 (.inr (.inr none))) 3 = some (.inr (.inr none)) := s1_eq
    generalize px_s1 lv 3 (.inr (.inr none)) = lv13 at l0 l1 l2 l3 ⊢
    show t_X d 156 9 lv13 [] g0 P
    refine t_0 vtt_9 rfl (ld_i l2) ?_
    refine t_0 vtt_10 rfl (pq_b (by decide)) ?_
    refine tb_eq vtt_12 (by decide) ⟨by omega, by omega⟩ ⟨by omega, by omega⟩ (fun c14 => ?_) (fun c14 => ?_)
    · show t_X d 156 21 lv13 [] g0 P
      refine t_0 vtt_21 rfl rfl ?_
      refine t_1 vtt_22 rfl (pb_goto (pc := 22) (by decide)) ?_
      show t_X d 156 26 lv13 [oI 1] g0 P
      refine t_2 vtt_26 rfl (w := (px_s1 lv13 4 (oI 1), [])) rfl ?_
      replace l0 : px_lg (px_s1 lv13 4 (oI 1)) 0 = some (pvR 0) := s1_ne (by decide) (fun _ => rfl) l0
      replace l1 : px_lg (px_s1 lv13 4 (oI 1)) 1 = some (oI (i)) := s1_ne (by decide) (fun _ => rfl) l1
      replace l2 : px_lg (px_s1 lv13 4 (oI 1)) 2 = some (oI (what)) := s1_ne (by decide) (fun _ => rfl) l2
      replace l3 : px_lg (px_s1 lv13 4 (oI 1)) 3 = some (.inr (.inr none)) := s1_ne (by decide) (fun _ => rfl) l3
      have l4 : px_lg (px_s1 lv13 4 (oI 1)) 4 = some (oI 1) := s1_eq
      generalize px_s1 lv13 4 (oI 1) = lv15 at l0 l1 l2 l3 l4 ⊢
      show t_X d 156 28 lv15 [] g0 P
      refine t_0 vtt_28 rfl (ld_a l3) ?_
      refine t_1 vtt_29 rfl (pn_nt (pc := 29) (by decide)) ?_
      show t_X d 156 47 lv15 [] g0 P
      refine t_0 vtt_47 rfl rfl ?_
      refine t_5 vtt_50 rfl rfl ?_
      exact hP
    · show t_X d 156 15 lv13 [] g0 P
      refine t_0 vtt_15 rfl (ld_i l2) ?_
      refine t_0 vtt_16 rfl (pq_b (by decide)) ?_
      refine tb_ne vtt_18 (by decide) ⟨by omega, by omega⟩ ⟨by omega, by omega⟩ (fun c16 => ?_) (fun c16 => ?_)
      · show t_X d 156 25 lv13 [] g0 P
        refine t_0 vtt_25 rfl rfl ?_
        refine t_2 vtt_26 rfl (w := (px_s1 lv13 4 (oI 0), [])) rfl ?_
        replace l0 : px_lg (px_s1 lv13 4 (oI 0)) 0 = some (pvR 0) := s1_ne (by decide) (fun _ => rfl) l0
        replace l1 : px_lg (px_s1 lv13 4 (oI 0)) 1 = some (oI (i)) := s1_ne (by decide) (fun _ => rfl) l1
        replace l2 : px_lg (px_s1 lv13 4 (oI 0)) 2 = some (oI (what)) := s1_ne (by decide) (fun _ => rfl) l2
        replace l3 : px_lg (px_s1 lv13 4 (oI 0)) 3 = some (.inr (.inr none)) := s1_ne (by decide) (fun _ => rfl) l3
        have l4 : px_lg (px_s1 lv13 4 (oI 0)) 4 = some (oI 0) := s1_eq
        generalize px_s1 lv13 4 (oI 0) = lv17 at l0 l1 l2 l3 l4 ⊢
        show t_X d 156 28 lv17 [] g0 P
        refine t_0 vtt_28 rfl (ld_a l3) ?_
        refine t_1 vtt_29 rfl (pn_nt (pc := 29) (by decide)) ?_
        show t_X d 156 47 lv17 [] g0 P
        refine t_0 vtt_47 rfl rfl ?_
        refine t_5 vtt_50 rfl rfl ?_
        exact hP
      · show t_X d 156 21 lv13 [] g0 P
        refine t_0 vtt_21 rfl rfl ?_
        refine t_1 vtt_22 rfl (pb_goto (pc := 22) (by decide)) ?_
        show t_X d 156 26 lv13 [oI 1] g0 P
        refine t_2 vtt_26 rfl (w := (px_s1 lv13 4 (oI 1), [])) rfl ?_
        replace l0 : px_lg (px_s1 lv13 4 (oI 1)) 0 = some (pvR 0) := s1_ne (by decide) (fun _ => rfl) l0
        replace l1 : px_lg (px_s1 lv13 4 (oI 1)) 1 = some (oI (i)) := s1_ne (by decide) (fun _ => rfl) l1
        replace l2 : px_lg (px_s1 lv13 4 (oI 1)) 2 = some (oI (what)) := s1_ne (by decide) (fun _ => rfl) l2
        replace l3 : px_lg (px_s1 lv13 4 (oI 1)) 3 = some (.inr (.inr none)) := s1_ne (by decide) (fun _ => rfl) l3
        have l4 : px_lg (px_s1 lv13 4 (oI 1)) 4 = some (oI 1) := s1_eq
        generalize px_s1 lv13 4 (oI 1) = lv18 at l0 l1 l2 l3 l4 ⊢
        show t_X d 156 28 lv18 [] g0 P
        refine t_0 vtt_28 rfl (ld_a l3) ?_
        refine t_1 vtt_29 rfl (pn_nt (pc := 29) (by decide)) ?_
        show t_X d 156 47 lv18 [] g0 P
        refine t_0 vtt_47 rfl rfl ?_
        refine t_5 vtt_50 rfl rfl ?_
        exact hP
set_option maxHeartbeats 1000000 in
theorem vtm_r {m : Nat} (hm : m < 32) {ki ma ta wo : Int} {k1 c : Int} {o v le st co en : tC} {d : Nat} (hd : 8 ≤ d) {g0 : pH} (hG : g_I eG g0) (hs : sdM g0 m ki ma ta wo) (hL : rLm g0 k1 c o v le st co en) (hb : bM g0 m) {pic : tC} (hp : ∀ j : Nat, j < 25 → pic j = fA g0 210 (25 * m + j)) (hpb : ∀ j, -2147483648 ≤ pic j ∧ pic j ≤ 2147483647) {h tk : Nat → Int} (eh : h = (fun w : Nat => aV o v (qF m ki ma ta wo w) le st co en c 119 99)) (et : tk = (fun w : Nat => aV o v (qF m ki ma ta wo w) le st co en c 116 99)) {P : Option pv × pH → Prop} (hZ : oS (fun _ => true) h 8 = 0 → ∀ g : pH, P (some (.inr (.inl (xe_k 9223372036854775806))), g)) {w : Nat} (hw : w ≤ 6) (hA9 : oS (fun _ => true) h 8 ≠ 0 → ∀ g : pH, P (some (.inr (.inl (Int64.ofInt (((gW h tk (alN pic) 1 0).getD w 0 : Nat) : Int)))), g)) {lv : List (Nat × pv)} (l0 : px_lg lv 0 = some (pvR 196)) (l1 : px_lg lv 1 = some (oI (m : Int))) (l2 : px_lg lv 2 = some (oI (w : Int))) : t_X d 263 0 lv [] g0 P := by
  have hh : ∀ k, 0 ≤ h k ∧ h k ≤ 99 := fun k => by rw [eh]; exact aV_b (by decide)
  have ht : ∀ k, 0 ≤ tk k ∧ tk k ≤ 99 := fun k => by rw [et]; exact aV_b (by decide)
  have sb := oS_b (b := fun _ => true) (by decide) hh 8
  have gv := gV_b (rt := alN pic) hh ht (set := 1) (last := 0) (by decide) (by decide) rfl
  refine t_0 vtm_0 rfl (ld_a l0) ?_
  refine t_0 vtm_1 rfl (ld_i l1) ?_
  refine t_3 vtm_2 rfl (ar := ([pvR 196, oI ((m : Int))], [])) (pcal_w (as := [oI ((m : Int))]) rfl rfl rfl yveo_196) ⟨by omega, Nat.le_of_ble_eq_true rfl, Nat.le_of_ble_eq_true rfl, rfl⟩ ?_
  refine it_run (by omega) (by omega) rfl rfl (fun m9 hm9 x9 q9 => ?_) (fun q9 => absurd ⟨m, hm, rfl, hb⟩ q9)
  show t_X d 263 5 lv [oI 1] g0 P
  refine tz_eq vtm_5 (by decide) ⟨by omega, by omega⟩ (fun c1 => absurd c1 (by omega)) (fun c1 => ?_)
  show t_X d 263 8 lv [] g0 P
  refine t_0 vtm_8 rfl (ld_i l2) ?_
  refine t_0 vtm_9 rfl rfl ?_
  refine t_0 vtm_10 rfl (pq_b (by decide)) ?_
  refine t_3 vtm_12 rfl (ar := ([oI ((w : Int)), oI 0, oI 6], [])) (pcal_s ⟨Or.inl rfl, rfl, Nat.le_of_ble_eq_true rfl⟩) ⟨by omega, Nat.le_of_ble_eq_true rfl, Nat.le_of_ble_eq_true rfl, rfl⟩ ?_
  refine in_run ⟨by omega, by omega⟩ ⟨by omega, by omega⟩ ⟨by omega, by omega⟩ rfl rfl rfl (fun t2 => ?_) (fun t2 => absurd t2 (by omega))
  show t_X d 263 15 lv [oI 1] g0 P
  refine tz_ne vtm_15 (by decide) ⟨by omega, by omega⟩ (fun c3 => ?_) (fun c3 => absurd c3 (by omega))
  show t_X d 263 33 lv [] g0 P
  refine t_0 vtm_33 rfl (ld_a l0) ?_
  refine t_0 vtm_34 rfl (ld_i l1) ?_
  refine t_3 vtm_35 rfl (ar := ([pvR 196, oI ((m : Int))], [])) (pcal_w (as := [oI ((m : Int))]) rfl rfl rfl yveo_196) ⟨by omega, Nat.le_of_ble_eq_true rfl, Nat.le_of_ble_eq_true rfl, rfl⟩ ?_
  refine vlg_run hm hs hL eh (by omega) (fun g1 J1 h1 => ?_) hG rfl rfl
  generalize eB : oS (fun _ => true) h 8 = Bi at sb hZ hA9 ⊢
  show t_X d 263 38 lv [oI (Bi)] g1 P
  refine t_2 vtm_38 rfl (w := (px_s1 lv 3 (oI (Bi)), [])) rfl ?_
  replace l0 : px_lg (px_s1 lv 3 (oI (Bi))) 0 = some (pvR 196) := s1_ne (by decide) (fun _ => rfl) l0
  replace l1 : px_lg (px_s1 lv 3 (oI (Bi))) 1 = some (oI ((m : Int))) := s1_ne (by decide) (fun _ => rfl) l1
  replace l2 : px_lg (px_s1 lv 3 (oI (Bi))) 2 = some (oI ((w : Int))) := s1_ne (by decide) (fun _ => rfl) l2
  have l3 : px_lg (px_s1 lv 3 (oI (Bi))) 3 = some (oI (Bi)) := s1_eq
  generalize px_s1 lv 3 (oI (Bi)) = lv4 at l0 l1 l2 l3 ⊢
  show t_X d 263 39 lv4 [] g1 P
  by_cases z9 : Bi = 0
  · skip
    refine t_0 vtm_39 rfl (ld_i l3) ?_
    refine tz_ne vtm_40 (by decide) ⟨by omega, by omega⟩ (fun c21 => absurd c21 (by omega)) (fun c21 => ?_)
    show t_X d 263 43 lv4 [] g1 P
    refine t_0 vtm_43 rfl rfl ?_
    refine t_5 vtm_46 rfl rfl ?_
    exact hZ (by omega) _
  · skip
    refine t_0 vtm_39 rfl (ld_i l3) ?_
    refine tz_ne vtm_40 (by decide) ⟨by omega, by omega⟩ (fun c21 => ?_) (fun c21 => absurd c21 (by omega))
    show t_X d 263 47 lv4 [] g1 P
    refine t_0 vtm_47 rfl (ld_a l0) ?_
    refine t_0 vtm_48 rfl (ld_i l1) ?_
    refine t_3 vtm_49 rfl (ar := ([pvR 196, oI ((m : Int))], [])) (pcal_w (as := [oI ((m : Int))]) rfl rfl rfl yveo_196) ⟨by omega, Nat.le_of_ble_eq_true rfl, Nat.le_of_ble_eq_true rfl, rfl⟩ ?_
    refine vlt_run hm (sdM_f J1.2 hW_n.2.2.2.2.1.1 hW_n.2.2.2.2.1.2.1 hW_n.2.2.2.2.1.2.2.1 hW_n.2.2.2.2.1.2.2.2.1 hW_n.2.2.2.2.2 hs) (rLm_f J1.2 hW_n.2.2.2.1 hL) et (by omega) J1.1 (pic := pic) (fun j hj => (hp j hj).trans (congrFun (fA_M J1.2 hW_n.2.2.2.2.1.2.2.2.2.1) _).symm) hpb hh h1 (fun g2 G2 st2 => ?_) rfl rfl
    rw [show gG h tk (alN pic) 7 1 0 = some (gV h tk (alN pic) 1 0, gW h tk (alN pic) 1 0) from (gG_s hh ht 7 1 0 (by decide) (by decide) rfl rfl).1] at st2
    obtain ⟨hLL, -, br⟩ := st2
    have f9 : fA g2 232 w = (((gW h tk (alN pic) 1 0).getD w 0 : Nat) : Int) := br w (by omega)
    have rb9 : -2147483648 ≤ (((gW h tk (alN pic) 1 0).getD w 0 : Nat) : Int) ∧ (((gW h tk (alN pic) 1 0).getD w 0 : Nat) : Int) ≤ 2147483647 := by rw [← f9]; exact i32_b _
    show t_X d 263 52 lv4 [] g2 P
    refine t_0 vtm_52 rfl (ld_i l2) ?_
    refine t_0 vtm_53 rfl (pq_b (by decide)) ?_
    refine tb_ge vtm_55 (by decide) ⟨by omega, by omega⟩ ⟨by omega, by omega⟩ (fun c22 => absurd c22 (by omega)) (fun c22 => ?_)
    show t_X d 263 58 lv4 [] g2 P
    refine t_0 vtm_58 rfl (ld_a l0) ?_
    refine t_0 vtm_59 rfl (yvcq_196_58 G2) ?_
    show t_X d 263 62 lv4 [pvR 232] g2 P
    refine t_0 vtm_62 rfl (ld_i l2) ?_
    refine t_0 vtm_63 rfl (pq_iw (m := w) yvez_232 rfl ⟨by omega, by omega⟩ f9) ?_
    show t_X d 263 64 lv4 [oI ((((gW h tk (alN pic) 1 0).getD w 0 : Nat) : Int))] g2 P
    refine t_0 vtm_64 rfl (pq_il ⟨by omega, by omega⟩) ?_
    refine t_1 vtm_65 rfl (pb_goto (pc := 65) (by decide)) ?_
    show t_X d 263 81 lv4 [.inr (.inl (Int64.ofInt (((gW h tk (alN pic) 1 0).getD w 0 : Nat) : Int)))] g2 P
    refine t_5 vtm_81 rfl rfl ?_
    exact hA9 (by omega) _
set_option maxHeartbeats 1000000 in
theorem vtm_a {m : Nat} (hm : m < 32) {ki ma ta wo : Int} {k1 c : Int} {o v le st co en : tC} {d : Nat} (hd : 8 ≤ d) {g0 : pH} (hG : g_I eG g0) (hs : sdM g0 m ki ma ta wo) (hL : rLm g0 k1 c o v le st co en) (hb : bM g0 m) {pic : tC} (hp : ∀ j : Nat, j < 25 → pic j = fA g0 210 (25 * m + j)) (hpb : ∀ j, -2147483648 ≤ pic j ∧ pic j ≤ 2147483647) {h tk : Nat → Int} (eh : h = (fun w : Nat => aV o v (qF m ki ma ta wo w) le st co en c 119 99)) (et : tk = (fun w : Nat => aV o v (qF m ki ma ta wo w) le st co en c 116 99)) {P : Option pv × pH → Prop} (hZ : oS (fun _ => true) h 8 = 0 → ∀ g : pH, P (some (.inr (.inl (xe_k 9223372036854775806))), g)) (hA9 : ∀ A B : Nat, gV h tk (alN pic) 1 0 = (A : Int) → oS (fun _ => true) h 8 = (B : Int) → 0 < B → ∀ g : pH, P (some (.inr (.inl (Int64.ofInt ((rdA A B : Nat) : Int)))), g)) {lv : List (Nat × pv)} (l0 : px_lg lv 0 = some (pvR 196)) (l1 : px_lg lv 1 = some (oI (m : Int))) (l2 : px_lg lv 2 = some (oI 20)) : t_X d 263 0 lv [] g0 P := by
  have hh : ∀ k, 0 ≤ h k ∧ h k ≤ 99 := fun k => by rw [eh]; exact aV_b (by decide)
  have ht : ∀ k, 0 ≤ tk k ∧ tk k ≤ 99 := fun k => by rw [et]; exact aV_b (by decide)
  have sb := oS_b (b := fun _ => true) (by decide) hh 8
  have gv := gV_b (rt := alN pic) hh ht (set := 1) (last := 0) (by decide) (by decide) rfl
  refine t_0 vtm_0 rfl (ld_a l0) ?_
  refine t_0 vtm_1 rfl (ld_i l1) ?_
  refine t_3 vtm_2 rfl (ar := ([pvR 196, oI ((m : Int))], [])) (pcal_w (as := [oI ((m : Int))]) rfl rfl rfl yveo_196) ⟨by omega, Nat.le_of_ble_eq_true rfl, Nat.le_of_ble_eq_true rfl, rfl⟩ ?_
  refine it_run (by omega) (by omega) rfl rfl (fun m9 hm9 x9 q9 => ?_) (fun q9 => absurd ⟨m, hm, rfl, hb⟩ q9)
  show t_X d 263 5 lv [oI 1] g0 P
  refine tz_eq vtm_5 (by decide) ⟨by omega, by omega⟩ (fun c1 => absurd c1 (by omega)) (fun c1 => ?_)
  show t_X d 263 8 lv [] g0 P
  refine t_0 vtm_8 rfl (ld_i l2) ?_
  refine t_0 vtm_9 rfl rfl ?_
  refine t_0 vtm_10 rfl (pq_b (by decide)) ?_
  refine t_3 vtm_12 rfl (ar := ([oI 20, oI 0, oI 6], [])) (pcal_s ⟨Or.inl rfl, rfl, Nat.le_of_ble_eq_true rfl⟩) ⟨by omega, Nat.le_of_ble_eq_true rfl, Nat.le_of_ble_eq_true rfl, rfl⟩ ?_
  refine in_run ⟨by omega, by omega⟩ ⟨by omega, by omega⟩ ⟨by omega, by omega⟩ rfl rfl rfl (fun t2 => absurd t2 (by omega)) (fun t2 => ?_)
  show t_X d 263 15 lv [oI 0] g0 P
  refine tz_ne vtm_15 (by decide) ⟨by omega, by omega⟩ (fun c3 => absurd c3 (by omega)) (fun c3 => ?_)
  show t_X d 263 18 lv [] g0 P
  refine t_0 vtm_18 rfl (ld_i l2) ?_
  refine t_0 vtm_19 rfl (pq_b (by decide)) ?_
  refine t_0 vtm_21 rfl (pq_b (by decide)) ?_
  refine t_3 vtm_23 rfl (ar := ([oI 20, oI 20, oI 21], [])) (pcal_s ⟨Or.inl rfl, rfl, Nat.le_of_ble_eq_true rfl⟩) ⟨by omega, Nat.le_of_ble_eq_true rfl, Nat.le_of_ble_eq_true rfl, rfl⟩ ?_
  refine in_run ⟨by omega, by omega⟩ ⟨by omega, by omega⟩ ⟨by omega, by omega⟩ rfl rfl rfl (fun t4 => ?_) (fun t4 => absurd t4 (by omega))
  show t_X d 263 26 lv [oI 1] g0 P
  refine tz_ne vtm_26 (by decide) ⟨by omega, by omega⟩ (fun c5 => ?_) (fun c5 => absurd c5 (by omega))
  show t_X d 263 33 lv [] g0 P
  refine t_0 vtm_33 rfl (ld_a l0) ?_
  refine t_0 vtm_34 rfl (ld_i l1) ?_
  refine t_3 vtm_35 rfl (ar := ([pvR 196, oI ((m : Int))], [])) (pcal_w (as := [oI ((m : Int))]) rfl rfl rfl yveo_196) ⟨by omega, Nat.le_of_ble_eq_true rfl, Nat.le_of_ble_eq_true rfl, rfl⟩ ?_
  refine vlg_run hm hs hL eh (by omega) (fun g1 J1 h1 => ?_) hG rfl rfl
  generalize eB : oS (fun _ => true) h 8 = Bi at sb hZ hA9 ⊢
  show t_X d 263 38 lv [oI (Bi)] g1 P
  refine t_2 vtm_38 rfl (w := (px_s1 lv 3 (oI (Bi)), [])) rfl ?_
  replace l0 : px_lg (px_s1 lv 3 (oI (Bi))) 0 = some (pvR 196) := s1_ne (by decide) (fun _ => rfl) l0
  replace l1 : px_lg (px_s1 lv 3 (oI (Bi))) 1 = some (oI ((m : Int))) := s1_ne (by decide) (fun _ => rfl) l1
  replace l2 : px_lg (px_s1 lv 3 (oI (Bi))) 2 = some (oI 20) := s1_ne (by decide) (fun _ => rfl) l2
  have l3 : px_lg (px_s1 lv 3 (oI (Bi))) 3 = some (oI (Bi)) := s1_eq
  generalize px_s1 lv 3 (oI (Bi)) = lv6 at l0 l1 l2 l3 ⊢
  show t_X d 263 39 lv6 [] g1 P
  by_cases z9 : Bi = 0
  · skip
    refine t_0 vtm_39 rfl (ld_i l3) ?_
    refine tz_ne vtm_40 (by decide) ⟨by omega, by omega⟩ (fun c21 => absurd c21 (by omega)) (fun c21 => ?_)
    show t_X d 263 43 lv6 [] g1 P
    refine t_0 vtm_43 rfl rfl ?_
    refine t_5 vtm_46 rfl rfl ?_
    exact hZ (by omega) _
  · skip
    refine t_0 vtm_39 rfl (ld_i l3) ?_
    refine tz_ne vtm_40 (by decide) ⟨by omega, by omega⟩ (fun c21 => ?_) (fun c21 => absurd c21 (by omega))
    show t_X d 263 47 lv6 [] g1 P
    refine t_0 vtm_47 rfl (ld_a l0) ?_
    refine t_0 vtm_48 rfl (ld_i l1) ?_
    refine t_3 vtm_49 rfl (ar := ([pvR 196, oI ((m : Int))], [])) (pcal_w (as := [oI ((m : Int))]) rfl rfl rfl yveo_196) ⟨by omega, Nat.le_of_ble_eq_true rfl, Nat.le_of_ble_eq_true rfl, rfl⟩ ?_
    refine vlt_run hm (sdM_f J1.2 hW_n.2.2.2.2.1.1 hW_n.2.2.2.2.1.2.1 hW_n.2.2.2.2.1.2.2.1 hW_n.2.2.2.2.1.2.2.2.1 hW_n.2.2.2.2.2 hs) (rLm_f J1.2 hW_n.2.2.2.1 hL) et (by omega) J1.1 (pic := pic) (fun j hj => (hp j hj).trans (congrFun (fA_M J1.2 hW_n.2.2.2.2.1.2.2.2.2.1) _).symm) hpb hh h1 (fun g2 G2 st2 => ?_) rfl rfl
    rw [show gG h tk (alN pic) 7 1 0 = some (gV h tk (alN pic) 1 0, gW h tk (alN pic) 1 0) from (gG_s hh ht 7 1 0 (by decide) (by decide) rfl rfl).1] at st2
    obtain ⟨hLL, -, br⟩ := st2
    obtain ⟨A, hA⟩ : ∃ z : Nat, gV h tk (alN pic) 1 0 = (z : Int) := ⟨(gV h tk (alN pic) 1 0).toNat, by omega⟩
    have hLL : g2.2.1 196 62 = Int64.ofInt ((A : Nat) : Int) := hLL.trans (congrArg Int64.ofInt hA)
    rw [hA] at gv
    obtain ⟨B, hB⟩ : ∃ z : Nat, Bi = (z : Int) := ⟨Bi.toNat, by omega⟩
    subst hB
    show t_X d 263 52 lv6 [] g2 P
    refine t_0 vtm_52 rfl (ld_i l2) ?_
    refine t_0 vtm_53 rfl (pq_b (by decide)) ?_
    refine tb_ge vtm_55 (by decide) ⟨by omega, by omega⟩ ⟨by omega, by omega⟩ (fun c22 => ?_) (fun c22 => absurd c22 (by omega))
    show t_X d 263 68 lv6 [] g2 P
    refine t_0 vtm_68 rfl (ld_a l0) ?_
    refine t_0 vtm_69 rfl (pq_lf yveo_196 rfl hLL) ?_
    show t_X d 263 72 lv6 [.inr (.inl (Int64.ofInt ((A : Nat) : Int)))] g2 P
    refine t_0 vtm_72 rfl (ld_i l3) ?_
    refine t_0 vtm_73 rfl (pq_il ⟨by omega, by omega⟩) ?_
    refine t_0 vtm_74 rfl (ld_i l2) ?_
    refine t_0 vtm_75 rfl (pq_b (by decide)) ?_
    refine t_0 vtm_77 rfl pq_sub ?_
    rw [show 20 - 20 = (0 : Int) by omega]
    refine t_3 vtm_78 rfl (ar := ([.inr (.inl (Int64.ofInt ((A : Nat) : Int))), .inr (.inl (Int64.ofInt (((B : Nat) : Int)))), oI ((0 : Int))], [])) (pcal_s ⟨Or.inl rfl, rfl, Nat.le_of_ble_eq_true rfl⟩) ⟨by omega, Nat.le_of_ble_eq_true rfl, Nat.le_of_ble_eq_true rfl, rfl⟩ ?_
    refine vth_r0 (by omega) (by omega) (by omega) (gD_l (by omega)) (Or.inr (by omega)) ?_ rfl rfl rfl
    rw [(gS_a (by omega)).1]
    show t_X d 263 81 lv6 [.inr (.inl (Int64.ofInt ((rdA A B : Nat) : Int)))] g2 P
    refine t_5 vtm_81 rfl rfl ?_
    exact hA9 A B hA rfl (by omega) _
set_option maxHeartbeats 1000000 in
theorem vtm_b {m : Nat} (hm : m < 32) {ki ma ta wo : Int} {k1 c : Int} {o v le st co en : tC} {d : Nat} (hd : 8 ≤ d) {g0 : pH} (hG : g_I eG g0) (hs : sdM g0 m ki ma ta wo) (hL : rLm g0 k1 c o v le st co en) (hb : bM g0 m) {pic : tC} (hp : ∀ j : Nat, j < 25 → pic j = fA g0 210 (25 * m + j)) (hpb : ∀ j, -2147483648 ≤ pic j ∧ pic j ≤ 2147483647) {h tk : Nat → Int} (eh : h = (fun w : Nat => aV o v (qF m ki ma ta wo w) le st co en c 119 99)) (et : tk = (fun w : Nat => aV o v (qF m ki ma ta wo w) le st co en c 116 99)) {P : Option pv × pH → Prop} (hZ : oS (fun _ => true) h 8 = 0 → ∀ g : pH, P (some (.inr (.inl (xe_k 9223372036854775806))), g)) (hA9 : ∀ A B : Nat, gV h tk (alN pic) 1 0 = (A : Int) → oS (fun _ => true) h 8 = (B : Int) → 0 < B → ∀ g : pH, P (some (.inr (.inl (Int64.ofInt ((rdB A B : Nat) : Int)))), g)) {lv : List (Nat × pv)} (l0 : px_lg lv 0 = some (pvR 196)) (l1 : px_lg lv 1 = some (oI (m : Int))) (l2 : px_lg lv 2 = some (oI 21)) : t_X d 263 0 lv [] g0 P := by
  have hh : ∀ k, 0 ≤ h k ∧ h k ≤ 99 := fun k => by rw [eh]; exact aV_b (by decide)
  have ht : ∀ k, 0 ≤ tk k ∧ tk k ≤ 99 := fun k => by rw [et]; exact aV_b (by decide)
  have sb := oS_b (b := fun _ => true) (by decide) hh 8
  have gv := gV_b (rt := alN pic) hh ht (set := 1) (last := 0) (by decide) (by decide) rfl
  refine t_0 vtm_0 rfl (ld_a l0) ?_
  refine t_0 vtm_1 rfl (ld_i l1) ?_
  refine t_3 vtm_2 rfl (ar := ([pvR 196, oI ((m : Int))], [])) (pcal_w (as := [oI ((m : Int))]) rfl rfl rfl yveo_196) ⟨by omega, Nat.le_of_ble_eq_true rfl, Nat.le_of_ble_eq_true rfl, rfl⟩ ?_
  refine it_run (by omega) (by omega) rfl rfl (fun m9 hm9 x9 q9 => ?_) (fun q9 => absurd ⟨m, hm, rfl, hb⟩ q9)
  show t_X d 263 5 lv [oI 1] g0 P
  refine tz_eq vtm_5 (by decide) ⟨by omega, by omega⟩ (fun c1 => absurd c1 (by omega)) (fun c1 => ?_)
  show t_X d 263 8 lv [] g0 P
  refine t_0 vtm_8 rfl (ld_i l2) ?_
  refine t_0 vtm_9 rfl rfl ?_
  refine t_0 vtm_10 rfl (pq_b (by decide)) ?_
  refine t_3 vtm_12 rfl (ar := ([oI 21, oI 0, oI 6], [])) (pcal_s ⟨Or.inl rfl, rfl, Nat.le_of_ble_eq_true rfl⟩) ⟨by omega, Nat.le_of_ble_eq_true rfl, Nat.le_of_ble_eq_true rfl, rfl⟩ ?_
  refine in_run ⟨by omega, by omega⟩ ⟨by omega, by omega⟩ ⟨by omega, by omega⟩ rfl rfl rfl (fun t2 => absurd t2 (by omega)) (fun t2 => ?_)
  show t_X d 263 15 lv [oI 0] g0 P
  refine tz_ne vtm_15 (by decide) ⟨by omega, by omega⟩ (fun c3 => absurd c3 (by omega)) (fun c3 => ?_)
  show t_X d 263 18 lv [] g0 P
  refine t_0 vtm_18 rfl (ld_i l2) ?_
  refine t_0 vtm_19 rfl (pq_b (by decide)) ?_
  refine t_0 vtm_21 rfl (pq_b (by decide)) ?_
  refine t_3 vtm_23 rfl (ar := ([oI 21, oI 20, oI 21], [])) (pcal_s ⟨Or.inl rfl, rfl, Nat.le_of_ble_eq_true rfl⟩) ⟨by omega, Nat.le_of_ble_eq_true rfl, Nat.le_of_ble_eq_true rfl, rfl⟩ ?_
  refine in_run ⟨by omega, by omega⟩ ⟨by omega, by omega⟩ ⟨by omega, by omega⟩ rfl rfl rfl (fun t4 => ?_) (fun t4 => absurd t4 (by omega))
  show t_X d 263 26 lv [oI 1] g0 P
  refine tz_ne vtm_26 (by decide) ⟨by omega, by omega⟩ (fun c5 => ?_) (fun c5 => absurd c5 (by omega))
  show t_X d 263 33 lv [] g0 P
  refine t_0 vtm_33 rfl (ld_a l0) ?_
  refine t_0 vtm_34 rfl (ld_i l1) ?_
  refine t_3 vtm_35 rfl (ar := ([pvR 196, oI ((m : Int))], [])) (pcal_w (as := [oI ((m : Int))]) rfl rfl rfl yveo_196) ⟨by omega, Nat.le_of_ble_eq_true rfl, Nat.le_of_ble_eq_true rfl, rfl⟩ ?_
  refine vlg_run hm hs hL eh (by omega) (fun g1 J1 h1 => ?_) hG rfl rfl
  generalize eB : oS (fun _ => true) h 8 = Bi at sb hZ hA9 ⊢
  show t_X d 263 38 lv [oI (Bi)] g1 P
  refine t_2 vtm_38 rfl (w := (px_s1 lv 3 (oI (Bi)), [])) rfl ?_
  replace l0 : px_lg (px_s1 lv 3 (oI (Bi))) 0 = some (pvR 196) := s1_ne (by decide) (fun _ => rfl) l0
  replace l1 : px_lg (px_s1 lv 3 (oI (Bi))) 1 = some (oI ((m : Int))) := s1_ne (by decide) (fun _ => rfl) l1
  replace l2 : px_lg (px_s1 lv 3 (oI (Bi))) 2 = some (oI 21) := s1_ne (by decide) (fun _ => rfl) l2
  have l3 : px_lg (px_s1 lv 3 (oI (Bi))) 3 = some (oI (Bi)) := s1_eq
  generalize px_s1 lv 3 (oI (Bi)) = lv6 at l0 l1 l2 l3 ⊢
  show t_X d 263 39 lv6 [] g1 P
  by_cases z9 : Bi = 0
  · skip
    refine t_0 vtm_39 rfl (ld_i l3) ?_
    refine tz_ne vtm_40 (by decide) ⟨by omega, by omega⟩ (fun c21 => absurd c21 (by omega)) (fun c21 => ?_)
    show t_X d 263 43 lv6 [] g1 P
    refine t_0 vtm_43 rfl rfl ?_
    refine t_5 vtm_46 rfl rfl ?_
    exact hZ (by omega) _
  · skip
    refine t_0 vtm_39 rfl (ld_i l3) ?_
    refine tz_ne vtm_40 (by decide) ⟨by omega, by omega⟩ (fun c21 => ?_) (fun c21 => absurd c21 (by omega))
    show t_X d 263 47 lv6 [] g1 P
    refine t_0 vtm_47 rfl (ld_a l0) ?_
    refine t_0 vtm_48 rfl (ld_i l1) ?_
    refine t_3 vtm_49 rfl (ar := ([pvR 196, oI ((m : Int))], [])) (pcal_w (as := [oI ((m : Int))]) rfl rfl rfl yveo_196) ⟨by omega, Nat.le_of_ble_eq_true rfl, Nat.le_of_ble_eq_true rfl, rfl⟩ ?_
    refine vlt_run hm (sdM_f J1.2 hW_n.2.2.2.2.1.1 hW_n.2.2.2.2.1.2.1 hW_n.2.2.2.2.1.2.2.1 hW_n.2.2.2.2.1.2.2.2.1 hW_n.2.2.2.2.2 hs) (rLm_f J1.2 hW_n.2.2.2.1 hL) et (by omega) J1.1 (pic := pic) (fun j hj => (hp j hj).trans (congrFun (fA_M J1.2 hW_n.2.2.2.2.1.2.2.2.2.1) _).symm) hpb hh h1 (fun g2 G2 st2 => ?_) rfl rfl
    rw [show gG h tk (alN pic) 7 1 0 = some (gV h tk (alN pic) 1 0, gW h tk (alN pic) 1 0) from (gG_s hh ht 7 1 0 (by decide) (by decide) rfl rfl).1] at st2
    obtain ⟨hLL, -, br⟩ := st2
    obtain ⟨A, hA⟩ : ∃ z : Nat, gV h tk (alN pic) 1 0 = (z : Int) := ⟨(gV h tk (alN pic) 1 0).toNat, by omega⟩
    have hLL : g2.2.1 196 62 = Int64.ofInt ((A : Nat) : Int) := hLL.trans (congrArg Int64.ofInt hA)
    rw [hA] at gv
    obtain ⟨B, hB⟩ : ∃ z : Nat, Bi = (z : Int) := ⟨Bi.toNat, by omega⟩
    subst hB
    show t_X d 263 52 lv6 [] g2 P
    refine t_0 vtm_52 rfl (ld_i l2) ?_
    refine t_0 vtm_53 rfl (pq_b (by decide)) ?_
    refine tb_ge vtm_55 (by decide) ⟨by omega, by omega⟩ ⟨by omega, by omega⟩ (fun c22 => ?_) (fun c22 => absurd c22 (by omega))
    show t_X d 263 68 lv6 [] g2 P
    refine t_0 vtm_68 rfl (ld_a l0) ?_
    refine t_0 vtm_69 rfl (pq_lf yveo_196 rfl hLL) ?_
    show t_X d 263 72 lv6 [.inr (.inl (Int64.ofInt ((A : Nat) : Int)))] g2 P
    refine t_0 vtm_72 rfl (ld_i l3) ?_
    refine t_0 vtm_73 rfl (pq_il ⟨by omega, by omega⟩) ?_
    refine t_0 vtm_74 rfl (ld_i l2) ?_
    refine t_0 vtm_75 rfl (pq_b (by decide)) ?_
    refine t_0 vtm_77 rfl pq_sub ?_
    rw [show 21 - 20 = (1 : Int) by omega]
    refine t_3 vtm_78 rfl (ar := ([.inr (.inl (Int64.ofInt ((A : Nat) : Int))), .inr (.inl (Int64.ofInt (((B : Nat) : Int)))), oI ((1 : Int))], [])) (pcal_s ⟨Or.inl rfl, rfl, Nat.le_of_ble_eq_true rfl⟩) ⟨by omega, Nat.le_of_ble_eq_true rfl, Nat.le_of_ble_eq_true rfl, rfl⟩ ?_
    refine vth_r1 (by omega) (by omega) (by omega) (gD_l (by omega)) (Or.inr (by omega)) ?_ rfl rfl rfl
    rw [(gS_a (by omega)).2]
    show t_X d 263 81 lv6 [.inr (.inl (Int64.ofInt ((rdB A B : Nat) : Int)))] g2 P
    refine t_5 vtm_81 rfl rfl ?_
    exact hA9 A B hA rfl (by omega) _
theorem vtm_n {d : Nat} (hd : 2 ≤ d) {g0 : pH} (hG : g_I eG g0) {i what : Int} (hi : -2147483648 ≤ i ∧ i ≤ 2147483647) (hw : -2147483648 ≤ what ∧ what ≤ 2147483647) (hC : ¬ (toM g0 i ∧ ((0 ≤ what ∧ what ≤ 6) ∨ what = 20 ∨ what = 21))) {P : Option pv × pH → Prop} (hP : P (some (.inr (.inl (xe_k 9223372036854775807))), g0)) {lv : List (Nat × pv)} (l0 : px_lg lv 0 = some (pvR 196)) (l1 : px_lg lv 1 = some (oI i)) (l2 : px_lg lv 2 = some (oI what)) : t_X d 263 0 lv [] g0 P := by
  refine t_0 vtm_0 rfl (ld_a l0) ?_
  refine t_0 vtm_1 rfl (ld_i l1) ?_
  refine t_3 vtm_2 rfl (ar := ([pvR 196, oI (i)], [])) (pcal_w (as := [oI (i)]) rfl rfl rfl yveo_196) ⟨by omega, Nat.le_of_ble_eq_true rfl, Nat.le_of_ble_eq_true rfl, rfl⟩ ?_
  refine it_run (by omega) hi rfl rfl (fun m9 hm9 x9 q9 => ?_) (fun q9 => ?_)
  · show t_X d 263 5 lv [oI 1] g0 P
    refine tz_eq vtm_5 (by decide) ⟨by omega, by omega⟩ (fun c1 => absurd c1 (by omega)) (fun c1 => ?_)
    show t_X d 263 8 lv [] g0 P
    refine t_0 vtm_8 rfl (ld_i l2) ?_
    refine t_0 vtm_9 rfl rfl ?_
    refine t_0 vtm_10 rfl (pq_b (by decide)) ?_
    refine t_3 vtm_12 rfl (ar := ([oI (what), oI 0, oI 6], [])) (pcal_s ⟨Or.inl rfl, rfl, Nat.le_of_ble_eq_true rfl⟩) ⟨by omega, Nat.le_of_ble_eq_true rfl, Nat.le_of_ble_eq_true rfl, rfl⟩ ?_
    refine in_run ⟨by omega, by omega⟩ ⟨by omega, by omega⟩ ⟨by omega, by omega⟩ rfl rfl rfl (fun t2 => ?_) (fun t2 => ?_)
    · show t_X d 263 15 lv [oI 1] g0 P
      refine tz_ne vtm_15 (by decide) ⟨by omega, by omega⟩ (fun c3 => ?_) (fun c3 => absurd c3 (by omega))
      show t_X d 263 33 lv [] g0 P
      exact absurd ⟨⟨m9, hm9, x9, q9⟩, by omega⟩ hC
    · show t_X d 263 15 lv [oI 0] g0 P
      refine tz_ne vtm_15 (by decide) ⟨by omega, by omega⟩ (fun c4 => absurd c4 (by omega)) (fun c4 => ?_)
      show t_X d 263 18 lv [] g0 P
      refine t_0 vtm_18 rfl (ld_i l2) ?_
      refine t_0 vtm_19 rfl (pq_b (by decide)) ?_
      refine t_0 vtm_21 rfl (pq_b (by decide)) ?_
      refine t_3 vtm_23 rfl (ar := ([oI (what), oI 20, oI 21], [])) (pcal_s ⟨Or.inl rfl, rfl, Nat.le_of_ble_eq_true rfl⟩) ⟨by omega, Nat.le_of_ble_eq_true rfl, Nat.le_of_ble_eq_true rfl, rfl⟩ ?_
      refine in_run ⟨by omega, by omega⟩ ⟨by omega, by omega⟩ ⟨by omega, by omega⟩ rfl rfl rfl (fun t5 => ?_) (fun t5 => ?_)
      · show t_X d 263 26 lv [oI 1] g0 P
        refine tz_ne vtm_26 (by decide) ⟨by omega, by omega⟩ (fun c6 => ?_) (fun c6 => absurd c6 (by omega))
        show t_X d 263 33 lv [] g0 P
        exact absurd ⟨⟨m9, hm9, x9, q9⟩, by omega⟩ hC
      · show t_X d 263 26 lv [oI 0] g0 P
        refine tz_ne vtm_26 (by decide) ⟨by omega, by omega⟩ (fun c7 => absurd c7 (by omega)) (fun c7 => ?_)
        show t_X d 263 29 lv [] g0 P
        refine t_0 vtm_29 rfl rfl ?_
        refine t_5 vtm_32 rfl rfl ?_
        exact hP
  · show t_X d 263 5 lv [oI 0] g0 P
    refine tz_eq vtm_5 (by decide) ⟨by omega, by omega⟩ (fun c8 => ?_) (fun c8 => absurd c8 (by omega))
    show t_X d 263 29 lv [] g0 P
    refine t_0 vtm_29 rfl rfl ?_
    refine t_5 vtm_32 rfl rfl ?_
    exact hP
set_option maxHeartbeats 1000000 in
theorem pq_toTurn {g : pH} (hG : g_I eG g) (hx : xL g) (hR : R30 g) (x1 x2 : Int32) : pr_ R30 156 263 [.inl x1, .inl x2] 1 true g := by
  refine pr_qq (p30_toTurn hG hx hR x1 x2) ?_
  obtain ⟨⟨⟨⟨⟨hSr, hT9, hN, hKp⟩, hl⟩, hRL⟩, ⟨⟨r1, r2, r3, r4⟩, r5⟩⟩, ⟨q1, q2⟩⟩ := hR
  have hR1 : R1 g := ⟨hSr, hT9, hN, hKp⟩
  obtain ⟨K, k1, c, o, v, le, st, co, en, hK, r0, hLc, hLm⟩ := RL_s hRL
  by_cases hC : toC g x1.toInt ∧ ((0 ≤ x2.toInt ∧ x2.toInt ≤ 6) ∨ x2.toInt = 20 ∨ x2.toInt = 21)
  · obtain ⟨⟨m, hm, e1, c0⟩, hw2⟩ := hC
    obtain ⟨⟨w0, w49, w35⟩, wA⟩ := wF_m
    have fa : ∀ k, k ∈ ([199, 200, 201, 202, 210, 222, 223, 224, 225, 226] : List Nat) → wF9.testBit (cn k) = false := fun k hk => by
      have := List.all_eq_true.mp wA k hk
      rw [Bool.not_eq_true'] at this
      exact this
    have h8 : cF g (4 + 2 * m) 8 = alB (fA g (5 + 2 * m)) 8 := q1 m hm c0
    have sc : sdC g m (cF g (4 + 2 * m) 3) (cF g (4 + 2 * m) 4) (cF g (4 + 2 * m) 6) (cF g (4 + 2 * m) 5) := ⟨rfl, rfl, rfl, rfl⟩
    obtain ⟨⟨s3, s4, s5, s6⟩, sp⟩ := r1 m hm
    have hs9 : ∀ g1 : pH, f_M wF9 g g1 → sdM g1 m (cF g (4 + 2 * m) 3) (cF g (4 + 2 * m) 4) (cF g (4 + 2 * m) 6) (cF g (4 + 2 * m) 5) := fun g1 M1 => sdM_f M1 (fa 199 (by decide)) (fa 200 (by decide)) (fa 201 (by decide)) (fa 202 (by decide)) w49 ⟨⟨s3.symm, s4.symm, s6.symm, s5.symm⟩, r5⟩
    have hl9 : ∀ g1 : pH, f_M wF9 g g1 → rLm g1 k1 c o v le st co en := fun g1 M1 => rLm_f M1 ⟨w35, fa 222 (by decide), fa 223 (by decide), fa 224 (by decide), fa 225 (by decide), fa 226 (by decide)⟩ hLm
    have hb9 : ∀ g1 : pH, f_M wF9 g g1 → bM g1 m := fun g1 M1 => by
      unfold bM
      rw [(M1.1 196 0 w0).1]
      exact (hN m hm).mp c0
    have hp9 : ∀ g1 : pH, f_M wF9 g g1 → ∀ j : Nat, j < 25 → fA g (5 + 2 * m) j = fA g1 210 (25 * m + j) := fun g1 M1 j hj => (sp j hj).trans (congrFun (fA_M M1 (fa 210 (by decide))) _).symm
    obtain ⟨h, eh⟩ : ∃ h : Nat → Int, h = fun w : Nat => aV o v (qF m (cF g (4 + 2 * m) 3) (cF g (4 + 2 * m) 4) (cF g (4 + 2 * m) 6) (cF g (4 + 2 * m) 5) w) le st co en c 119 99 := ⟨_, rfl⟩
    obtain ⟨tk, et⟩ : ∃ h : Nat → Int, h = fun w : Nat => aV o v (qF m (cF g (4 + 2 * m) 3) (cF g (4 + 2 * m) 4) (cF g (4 + 2 * m) 6) (cF g (4 + 2 * m) 5) w) le st co en c 116 99 := ⟨_, rfl⟩
    have l1 : (some (.inl x1) : Option pv) = some (oI (m : Int)) := (congrArg some (oI_r x1)).trans (by rw [e1])
    rcases hw2 with hw2 | e2 | e2
    · obtain ⟨w, e2⟩ : ∃ w : Nat, x2.toInt = w := ⟨x2.toInt.toNat, by omega⟩
      have hw : w ≤ 6 := by omega
      have l2 : (some (.inl x2) : Option pv) = some (oI (w : Int)) := (congrArg some (oI_r x2)).trans (by rw [e2])
      refine vtt_r hK hm (by decide) hG hSr sc r0 hLc h8 c0 eh et (fun z0 g1 J1 => ⟨_, rfl, ?_⟩) (w := w) hw (fun n0 g1 J1 => ⟨_, rfl, ?_⟩) rfl l1 l2
      · refine vtm_r hm (by decide) J1.1 (hs9 g1 J1.2) (hl9 g1 J1.2) (hb9 g1 J1.2) (pic := fA g (5 + 2 * m)) (hp9 g1 J1.2) (fun j => i32_b _) eh et (P := fun o2 : Option pv × pH => o2.1 = some (.inr (.inl (xe_k 9223372036854775806)))) (fun _ _ => rfl) (w := w) hw (fun y _ => absurd z0 y) rfl l1 l2
      · refine vtm_r hm (by decide) J1.1 (hs9 g1 J1.2) (hl9 g1 J1.2) (hb9 g1 J1.2) (pic := fA g (5 + 2 * m)) (hp9 g1 J1.2) (fun j => i32_b _) eh et (P := fun o2 : Option pv × pH => o2.1 = some (.inr (.inl (Int64.ofInt (((gW h tk (alN (fA g (5 + 2 * m))) 1 0).getD w 0 : Nat) : Int))))) (fun y _ => absurd y n0) (w := w) hw (fun _ _ => rfl) rfl l1 l2
    · have l2 : (some (.inl x2) : Option pv) = some (oI 20) := (congrArg some (oI_r x2)).trans (by rw [e2])
      refine vtt_a hK hm (by decide) hG hSr sc r0 hLc h8 c0 eh et (fun z0 g1 J1 => ⟨_, rfl, ?_⟩) (fun A B hA hB h0 g1 J1 => ⟨_, rfl, ?_⟩) rfl l1 l2
      · refine vtm_a hm (by decide) J1.1 (hs9 g1 J1.2) (hl9 g1 J1.2) (hb9 g1 J1.2) (pic := fA g (5 + 2 * m)) (hp9 g1 J1.2) (fun j => i32_b _) eh et (P := fun o2 : Option pv × pH => o2.1 = some (.inr (.inl (xe_k 9223372036854775806)))) (fun _ _ => rfl) (fun A B hA hB h0 _ => absurd (hB.symm.trans z0) (by omega)) rfl l1 l2
      · refine vtm_a hm (by decide) J1.1 (hs9 g1 J1.2) (hl9 g1 J1.2) (hb9 g1 J1.2) (pic := fA g (5 + 2 * m)) (hp9 g1 J1.2) (fun j => i32_b _) eh et (P := fun o2 : Option pv × pH => o2.1 = some (.inr (.inl (Int64.ofInt ((rdA A B : Nat) : Int))))) (fun y _ => absurd (hB.symm.trans y) (by omega)) (fun A' B' hA' hB' h0' _ => by obtain rfl : A = A' := (by omega); obtain rfl : B = B' := (by omega); rfl) rfl l1 l2
    · have l2 : (some (.inl x2) : Option pv) = some (oI 21) := (congrArg some (oI_r x2)).trans (by rw [e2])
      refine vtt_b hK hm (by decide) hG hSr sc r0 hLc h8 c0 eh et (fun z0 g1 J1 => ⟨_, rfl, ?_⟩) (fun A B hA hB h0 g1 J1 => ⟨_, rfl, ?_⟩) rfl l1 l2
      · refine vtm_b hm (by decide) J1.1 (hs9 g1 J1.2) (hl9 g1 J1.2) (hb9 g1 J1.2) (pic := fA g (5 + 2 * m)) (hp9 g1 J1.2) (fun j => i32_b _) eh et (P := fun o2 : Option pv × pH => o2.1 = some (.inr (.inl (xe_k 9223372036854775806)))) (fun _ _ => rfl) (fun A B hA hB h0 _ => absurd (hB.symm.trans z0) (by omega)) rfl l1 l2
      · refine vtm_b hm (by decide) J1.1 (hs9 g1 J1.2) (hl9 g1 J1.2) (hb9 g1 J1.2) (pic := fA g (5 + 2 * m)) (hp9 g1 J1.2) (fun j => i32_b _) eh et (P := fun o2 : Option pv × pH => o2.1 = some (.inr (.inl (Int64.ofInt ((rdB A B : Nat) : Int))))) (fun y _ => absurd (hB.symm.trans y) (by omega)) (fun A' B' hA' hB' h0' _ => by obtain rfl : A = A' := (by omega); obtain rfl : B = B' := (by omega); rfl) rfl l1 l2
  · refine vtt_n (by decide) hG hSr (i := x1.toInt) (what := x2.toInt) (i32_b _) (i32_b _) hC ⟨_, rfl, ?_⟩ rfl (congrArg some (oI_r x1)) (congrArg some (oI_r x2))
    exact vtm_n (by decide) hG (i := x1.toInt) (what := x2.toInt) (i32_b _) (i32_b _) (fun z => hC ⟨(to_iff hR1).mpr z.1, z.2⟩) (P := fun o2 : Option pv × pH => o2.1 = some (.inr (.inl (xe_k 9223372036854775807)))) rfl rfl (congrArg some (oI_r x1)) (congrArg some (oI_r x2))
