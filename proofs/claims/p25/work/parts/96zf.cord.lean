/-! orders of the class, exactly: says (printed by wip/e2/x6.py) -/
theorem oah_0 : xe_look (xc 59) 0 = some (.aload_n 0, 1, 0, 0, 0) := by decide +kernel
theorem oah_1 : xe_look (xc 59) 1 = some (.iload_n 1, 1, 0, 0, 0) := by decide +kernel
theorem oah_2 : xe_look (xc 59) 2 = some (.invokevirtual 59, 3, 0, 65, 883) := by decide +kernel
theorem oah_5 : xe_look (xc 59) 5 = some (.ifCond .eq 11, 3, 0, 0, 0) := by decide +kernel
theorem oah_8 : xe_look (xc 59) 8 = some (.aload_n 0, 1, 0, 0, 0) := by decide +kernel
theorem oah_9 : xe_look (xc 59) 9 = some (.iload_n 2, 1, 0, 0, 0) := by decide +kernel
theorem oah_10 : xe_look (xc 59) 10 = some (.invokevirtual 59, 3, 0, 65, 883) := by decide +kernel
theorem oah_13 : xe_look (xc 59) 13 = some (.ifCond .ne 5, 3, 0, 0, 0) := by decide +kernel
theorem oah_18 : xe_look (xc 59) 18 = some (.aload_n 0, 1, 0, 0, 0) := by decide +kernel
theorem oah_19 : xe_look (xc 59) 19 = some (.getfield 18, 3, 5, 6, 882) := by decide +kernel
theorem oah_22 : xe_look (xc 59) 22 = some (.aload_n 0, 1, 0, 0, 0) := by decide +kernel
theorem oah_23 : xe_look (xc 59) 23 = some (.getfield 15, 3, 5, 5, 884) := by decide +kernel
theorem oah_26 : xe_look (xc 59) 26 = some (.iload_n 2, 1, 0, 0, 0) := by decide +kernel
theorem oah_27 : xe_look (xc 59) 27 = some (.iaload, 1, 0, 0, 0) := by decide +kernel
theorem oah_28 : xe_look (xc 59) 28 = some (.dup2, 1, 0, 0, 0) := by decide +kernel
theorem oah_29 : xe_look (xc 59) 29 = some (.iaload, 1, 0, 0, 0) := by decide +kernel
theorem oah_30 : xe_look (xc 59) 30 = some (.iconst 1, 1, 0, 0, 0) := by decide +kernel
theorem oah_31 : xe_look (xc 59) 31 = some (.aload_n 0, 1, 0, 0, 0) := by decide +kernel
theorem oah_32 : xe_look (xc 59) 32 = some (.getfield 15, 3, 5, 5, 884) := by decide +kernel
theorem oah_35 : xe_look (xc 59) 35 = some (.iload_n 1, 1, 0, 0, 0) := by decide +kernel
theorem oah_36 : xe_look (xc 59) 36 = some (.iaload, 1, 0, 0, 0) := by decide +kernel
theorem oah_37 : xe_look (xc 59) 37 = some (.ishl, 1, 0, 0, 0) := by decide +kernel
theorem oah_38 : xe_look (xc 59) 38 = some (.ior, 1, 0, 0, 0) := by decide +kernel
theorem oah_39 : xe_look (xc 59) 39 = some (.iastore, 1, 0, 0, 0) := by decide +kernel
theorem oah_40 : xe_look (xc 59) 40 = some (.aload_n 0, 1, 0, 0, 0) := by decide +kernel
theorem oah_41 : xe_look (xc 59) 41 = some (.invokevirtual 74, 3, 0, 60, 885) := by decide +kernel
theorem oah_44 : xe_look (xc 59) 44 = some (.ireturn, 1, 0, 0, 0) := by decide +kernel
theorem osy9_0 : xe_look (xc 142) 0 = some (.aload_n 0, 1, 0, 0, 0) := by decide +kernel
theorem osy9_1 : xe_look (xc 142) 1 = some (.iload_n 1, 1, 0, 0, 0) := by decide +kernel
theorem osy9_2 : xe_look (xc 142) 2 = some (.iconst 2, 1, 0, 0, 0) := by decide +kernel
theorem osy9_3 : xe_look (xc 142) 3 = some (.bipush 12, 2, 0, 0, 0) := by decide +kernel
theorem osy9_5 : xe_look (xc 142) 5 = some (.invokevirtual 152, 3, 0, 151, 985) := by decide +kernel
theorem osy9_8 : xe_look (xc 142) 8 = some (.ifCond .eq 13, 3, 0, 0, 0) := by decide +kernel
theorem osy9_11 : xe_look (xc 142) 11 = some (.iload 4, 2, 0, 0, 0) := by decide +kernel
theorem osy9_13 : xe_look (xc 142) 13 = some (.iconst 0, 1, 0, 0, 0) := by decide +kernel
theorem osy9_14 : xe_look (xc 142) 14 = some (.iconst 3, 1, 0, 0, 0) := by decide +kernel
theorem osy9_15 : xe_look (xc 142) 15 = some (.invokestatic 89, 3, 0, 124, 994) := by decide +kernel
theorem osy9_18 : xe_look (xc 142) 18 = some (.ifCond .ne 7, 3, 0, 0, 0) := by decide +kernel
theorem osy9_21 : xe_look (xc 142) 21 = some (.ldc2_w 253, 3, 0, 9223372036854775807, 1021) := by decide +kernel
theorem osy9_24 : xe_look (xc 142) 24 = some (.lreturn, 1, 0, 0, 0) := by decide +kernel
theorem osy9_25 : xe_look (xc 142) 25 = some (.aload_n 0, 1, 0, 0, 0) := by decide +kernel
theorem osy9_26 : xe_look (xc 142) 26 = some (.getfield 77, 3, 11, 12, 1049) := by decide +kernel
theorem osy9_29 : xe_look (xc 142) 29 = some (.aload_n 0, 1, 0, 0, 0) := by decide +kernel
theorem osy9_30 : xe_look (xc 142) 30 = some (.getfield 9, 3, 11, 0, 982) := by decide +kernel
theorem osy9_33 : xe_look (xc 142) 33 = some (.iload_n 1, 1, 0, 0, 0) := by decide +kernel
theorem osy9_34 : xe_look (xc 142) 34 = some (.aload_n 0, 1, 0, 0, 0) := by decide +kernel
theorem osy9_35 : xe_look (xc 142) 35 = some (.getfield 16, 3, 11, 2, 983) := by decide +kernel
theorem osy9_38 : xe_look (xc 142) 38 = some (.invokevirtual 337, 3, 0, 67, 1083) := by decide +kernel
theorem osy9_41 : xe_look (xc 142) 41 = some (.istore 5, 2, 0, 0, 0) := by decide +kernel
theorem osy9_43 : xe_look (xc 142) 43 = some (.aload_n 0, 1, 0, 0, 0) := by decide +kernel
theorem osy9_44 : xe_look (xc 142) 44 = some (.iconst 0, 1, 0, 0, 0) := by decide +kernel
theorem osy9_45 : xe_look (xc 142) 45 = some (.putfield 81, 3, 11, 1, 981) := by decide +kernel
theorem osy9_48 : xe_look (xc 142) 48 = some (.iload 5, 2, 0, 0, 0) := by decide +kernel
theorem osy9_50 : xe_look (xc 142) 50 = some (.ifCond .ne 7, 3, 0, 0, 0) := by decide +kernel
theorem osy9_53 : xe_look (xc 142) 53 = some (.ldc2_w 262, 3, 0, 9223372036854775806, 1084) := by decide +kernel
theorem osy9_56 : xe_look (xc 142) 56 = some (.lreturn, 1, 0, 0, 0) := by decide +kernel
theorem osy9_57 : xe_look (xc 142) 57 = some (.iload 4, 2, 0, 0, 0) := by decide +kernel
theorem osy9_59 : xe_look (xc 142) 59 = some (.ifCond .ne 59, 3, 0, 0, 0) := by decide +kernel
theorem osy9_62 : xe_look (xc 142) 62 = some (.iload_n 2, 1, 0, 0, 0) := by decide +kernel
theorem osy9_63 : xe_look (xc 142) 63 = some (.iload_n 3, 1, 0, 0, 0) := by decide +kernel
theorem osy9_64 : xe_look (xc 142) 64 = some (.if_icmp .eq 29, 3, 0, 0, 0) := by decide +kernel
theorem osy9_67 : xe_look (xc 142) 67 = some (.aload_n 0, 1, 0, 0, 0) := by decide +kernel
theorem osy9_68 : xe_look (xc 142) 68 = some (.getfield 77, 3, 11, 12, 1049) := by decide +kernel
theorem osy9_71 : xe_look (xc 142) 71 = some (.iload_n 2, 1, 0, 0, 0) := by decide +kernel
theorem osy9_72 : xe_look (xc 142) 72 = some (.invokevirtual 349, 3, 0, 65, 1085) := by decide +kernel
theorem osy9_75 : xe_look (xc 142) 75 = some (.ifCond .eq 18, 3, 0, 0, 0) := by decide +kernel
theorem osy9_78 : xe_look (xc 142) 78 = some (.aload_n 0, 1, 0, 0, 0) := by decide +kernel
theorem osy9_79 : xe_look (xc 142) 79 = some (.getfield 77, 3, 11, 12, 1049) := by decide +kernel
theorem osy9_82 : xe_look (xc 142) 82 = some (.iload_n 3, 1, 0, 0, 0) := by decide +kernel
theorem osy9_83 : xe_look (xc 142) 83 = some (.invokevirtual 349, 3, 0, 65, 1085) := by decide +kernel
theorem osy9_86 : xe_look (xc 142) 86 = some (.ifCond .eq 7, 3, 0, 0, 0) := by decide +kernel
theorem osy9_89 : xe_look (xc 142) 89 = some (.iconst 1, 1, 0, 0, 0) := by decide +kernel
theorem osy9_90 : xe_look (xc 142) 90 = some (.goto 4, 3, 0, 0, 0) := by decide +kernel
theorem osy9_93 : xe_look (xc 142) 93 = some (.iconst 0, 1, 0, 0, 0) := by decide +kernel
theorem osy9_94 : xe_look (xc 142) 94 = some (.istore 6, 2, 0, 0, 0) := by decide +kernel
theorem osy9_96 : xe_look (xc 142) 96 = some (.iload 6, 2, 0, 0, 0) := by decide +kernel
theorem osy9_98 : xe_look (xc 142) 98 = some (.ifCond .eq 16, 3, 0, 0, 0) := by decide +kernel
theorem osy9_101 : xe_look (xc 142) 101 = some (.aload_n 0, 1, 0, 0, 0) := by decide +kernel
theorem osy9_102 : xe_look (xc 142) 102 = some (.getfield 77, 3, 11, 12, 1049) := by decide +kernel
theorem osy9_105 : xe_look (xc 142) 105 = some (.iload_n 2, 1, 0, 0, 0) := by decide +kernel
theorem osy9_106 : xe_look (xc 142) 106 = some (.iload_n 3, 1, 0, 0, 0) := by decide +kernel
theorem osy9_107 : xe_look (xc 142) 107 = some (.invokevirtual 352, 3, 0, 59, 1086) := by decide +kernel
theorem osy9_110 : xe_look (xc 142) 110 = some (.i2l, 1, 0, 0, 0) := by decide +kernel
theorem osy9_111 : xe_look (xc 142) 111 = some (.goto 6, 3, 0, 0, 0) := by decide +kernel
theorem osy9_114 : xe_look (xc 142) 114 = some (.ldc2_w 347, 3, 0, 9223372036854775805, 1087) := by decide +kernel
theorem osy9_117 : xe_look (xc 142) 117 = some (.lreturn, 1, 0, 0, 0) := by decide +kernel
theorem osy9_118 : xe_look (xc 142) 118 = some (.aload_n 0, 1, 0, 0, 0) := by decide +kernel
theorem osy9_119 : xe_look (xc 142) 119 = some (.getfield 77, 3, 11, 12, 1049) := by decide +kernel
theorem osy9_122 : xe_look (xc 142) 122 = some (.invokevirtual 355, 3, 0, 63, 1088) := by decide +kernel
theorem osy9_125 : xe_look (xc 142) 125 = some (.aload_n 0, 1, 0, 0, 0) := by decide +kernel
theorem osy9_126 : xe_look (xc 142) 126 = some (.getfield 77, 3, 11, 12, 1049) := by decide +kernel
theorem osy9_129 : xe_look (xc 142) 129 = some (.getfield 358, 3, 5, 2, 1089) := by decide +kernel
theorem osy9_132 : xe_look (xc 142) 132 = some (.ifCond .ne 7, 3, 0, 0, 0) := by decide +kernel
theorem osy9_135 : xe_look (xc 142) 135 = some (.ldc2_w 262, 3, 0, 9223372036854775806, 1084) := by decide +kernel
theorem osy9_138 : xe_look (xc 142) 138 = some (.lreturn, 1, 0, 0, 0) := by decide +kernel
theorem osy9_139 : xe_look (xc 142) 139 = some (.iload 4, 2, 0, 0, 0) := by decide +kernel
theorem osy9_141 : xe_look (xc 142) 141 = some (.iconst 1, 1, 0, 0, 0) := by decide +kernel
theorem osy9_142 : xe_look (xc 142) 142 = some (.if_icmp .ne 12, 3, 0, 0, 0) := by decide +kernel
theorem osy9_145 : xe_look (xc 142) 145 = some (.aload_n 0, 1, 0, 0, 0) := by decide +kernel
theorem osy9_146 : xe_look (xc 142) 146 = some (.getfield 77, 3, 11, 12, 1049) := by decide +kernel
theorem osy9_149 : xe_look (xc 142) 149 = some (.getfield 361, 3, 5, 0, 1090) := by decide +kernel
theorem osy9_152 : xe_look (xc 142) 152 = some (.i2l, 1, 0, 0, 0) := by decide +kernel
theorem osy9_153 : xe_look (xc 142) 153 = some (.lreturn, 1, 0, 0, 0) := by decide +kernel
theorem osy9_154 : xe_look (xc 142) 154 = some (.iload 4, 2, 0, 0, 0) := by decide +kernel
theorem osy9_156 : xe_look (xc 142) 156 = some (.iconst 2, 1, 0, 0, 0) := by decide +kernel
theorem osy9_157 : xe_look (xc 142) 157 = some (.if_icmp .ne 14, 3, 0, 0, 0) := by decide +kernel
theorem osy9_160 : xe_look (xc 142) 160 = some (.aload_n 0, 1, 0, 0, 0) := by decide +kernel
theorem osy9_161 : xe_look (xc 142) 161 = some (.getfield 77, 3, 11, 12, 1049) := by decide +kernel
theorem osy9_164 : xe_look (xc 142) 164 = some (.getfield 364, 3, 5, 1, 1091) := by decide +kernel
theorem osy9_167 : xe_look (xc 142) 167 = some (.i2l, 1, 0, 0, 0) := by decide +kernel
theorem osy9_168 : xe_look (xc 142) 168 = some (.goto 11, 3, 0, 0, 0) := by decide +kernel
theorem osy9_171 : xe_look (xc 142) 171 = some (.aload_n 0, 1, 0, 0, 0) := by decide +kernel
theorem osy9_172 : xe_look (xc 142) 172 = some (.getfield 77, 3, 11, 12, 1049) := by decide +kernel
theorem osy9_175 : xe_look (xc 142) 175 = some (.getfield 358, 3, 5, 2, 1089) := by decide +kernel
theorem osy9_178 : xe_look (xc 142) 178 = some (.i2l, 1, 0, 0, 0) := by decide +kernel
theorem osy9_179 : xe_look (xc 142) 179 = some (.lreturn, 1, 0, 0, 0) := by decide +kernel
theorem oth_0 : xe_look (xc 151) 0 = some (.iload_n 1, 1, 0, 0, 0) := by decide +kernel
theorem oth_1 : xe_look (xc 151) 1 = some (.iload_n 2, 1, 0, 0, 0) := by decide +kernel
theorem oth_2 : xe_look (xc 151) 2 = some (.if_icmp .lt 20, 3, 0, 0, 0) := by decide +kernel
theorem oth_5 : xe_look (xc 151) 5 = some (.iload_n 1, 1, 0, 0, 0) := by decide +kernel
theorem oth_6 : xe_look (xc 151) 6 = some (.iload_n 3, 1, 0, 0, 0) := by decide +kernel
theorem oth_7 : xe_look (xc 151) 7 = some (.if_icmp .gt 15, 3, 0, 0, 0) := by decide +kernel
theorem oth_10 : xe_look (xc 151) 10 = some (.iload_n 1, 1, 0, 0, 0) := by decide +kernel
theorem oth_11 : xe_look (xc 151) 11 = some (.aload_n 0, 1, 0, 0, 0) := by decide +kernel
theorem oth_12 : xe_look (xc 151) 12 = some (.getfield 81, 3, 11, 1, 981) := by decide +kernel
theorem oth_15 : xe_look (xc 151) 15 = some (.if_icmp .gt 7, 3, 0, 0, 0) := by decide +kernel
theorem oth_18 : xe_look (xc 151) 18 = some (.iconst 1, 1, 0, 0, 0) := by decide +kernel
theorem oth_19 : xe_look (xc 151) 19 = some (.goto 4, 3, 0, 0, 0) := by decide +kernel
theorem oth_22 : xe_look (xc 151) 22 = some (.iconst 0, 1, 0, 0, 0) := by decide +kernel
theorem oth_23 : xe_look (xc 151) 23 = some (.ireturn, 1, 0, 0, 0) := by decide +kernel
theorem oil {x : Int} (h0 : -2147483648 ≤ x) (h1 : x ≤ 2147483647) : Int32.toInt64 (Int32.ofInt x) = Int64.ofInt x := by
  have h := Int64.ofInt_toInt (Int32.toInt64 (Int32.ofInt x))
  rw [Int32.toInt_toInt64, oT h0 h1] at h
  exact h.symm
theorem b32_F {A : Nat → Nat} {N : Nat} (hN : N ≤ 12) {x : Int} (h : x = oF A N 0) : b32 x = x := by
  have := oF_b (A := A) (S := 0) hN
  exact b32_i (by omega) (by omega)
/-- what says comes to, for those taken -/
def oAn (A : Nat → Nat) (N : Nat) (b : Nat → Bool) (nu : tC) (i j what : Int) : Int64 :=
  if what = 0 then (if i ≠ j ∧ oz_ b i ≠ -1 ∧ oz_ b j ≠ -1 then Int64.ofInt (oR A N (oz_ b i).toNat (oz_ b j).toNat) else xe_k 9223372036854775805)
  else if (oMo (oR A N) (oF A N 0) N N).1 = 0 then xe_k 9223372036854775806
  else if what = 1 then Int64.ofInt (oNm nu (oMo (oR A N) (oF A N 0) N N).2.1)
  else if what = 2 then Int64.ofInt (oNm nu (oMo (oR A N) (oF A N 0) N N).2.2)
  else Int64.ofInt (oMo (oR A N) (oF A N 0) N N).1
theorem oeo_0 : eL[0]? = some (0, 11) := by decide +kernel
theorem ogy_0_1 : eG (cn 0 + 1) = (0, 260, []) := by decide +kernel
theorem och_0_0 : (eG (cn 0 + 0)).2.2 = [2] := by decide +kernel
theorem ocq_0_0 {d i : Nat} {lv : List (Nat × pv)} {r : List pv} {g : pH} (hG : g_I eG g) : px_push eL d none (.getfield i) 11 0 lv (pvR 0 :: r) g = some (pvR 1 :: r) := pget oeo_0 (gI_r (r := 1) hG oeo_0 (Nat.le_of_ble_eq_true rfl) (y := 0) rfl och_0_0)
theorem och_0_12 : (eG (cn 0 + 12)).2.2 = [190] := by decide +kernel
theorem ocq_0_12 {d i : Nat} {lv : List (Nat × pv)} {r : List pv} {g : pH} (hG : g_I eG g) : px_push eL d none (.getfield i) 11 12 lv (pvR 0 :: r) g = some (pvR 189 :: r) := pget oeo_0 (gI_o (r := 189) hG oeo_0 (Nat.le_of_ble_eq_true rfl) (y := 12) rfl och_0_12)
theorem och_0_2 : (eG (cn 0 + 2)).2.2 = [3] := by decide +kernel
theorem ocq_0_2 {d i : Nat} {lv : List (Nat × pv)} {r : List pv} {g : pH} (hG : g_I eG g) : px_push eL d none (.getfield i) 11 2 lv (pvR 0 :: r) g = some (pvR 2 :: r) := pget oeo_0 (gI_o (r := 2) hG oeo_0 (Nat.le_of_ble_eq_true rfl) (y := 2) rfl och_0_2)
theorem wt_jO_0_1 : jO.testBit (cn 0 + 1) = true := by decide +kernel
set_option maxHeartbeats 1000000 in
theorem oah_run {d N : Nat} (hd : 4 ≤ d) (hN : N ≤ 12) {A : Nat → Nat} {g0 g : pH} {va vb vc : Int} {nu pl ah wf wl la : tC} (hA : oAh A N ah) {b : Nat → Bool} (hbN : cnt b 32 = N) (hpl : oPl b pl) (hS : oE g0 g va vb vc N nu pl ah wf wl la) {i j : Int} (hi : -2147483648 ≤ i ∧ i ≤ 2147483647) (hj : -2147483648 ≤ j ∧ j ≤ 2147483647) {x y : Nat} (hx : oz_ b i = x) (hy : oz_ b j = y) {P : Option pv × pH → Prop} (hP : ∀ (g : pH) (ah wf : tC), oE g0 g va vb vc N nu pl ah wf wl la → P (some (oI (oR A N x y)), g)) {lv : List (Nat × pv)} (l0 : px_lg lv 0 = some (pvR 189)) (l1 : px_lg lv 1 = some (oI i)) (l2 : px_lg lv 2 = some (oI j)) : t_X d 59 0 lv [] g P := by
  have hp := pw_12 hN
  have hp1 : 1 ≤ 2 ^ N := Nat.one_le_two_pow
  have hzi : oz_ b i ≠ -1 := by omega
  have hzj : oz_ b j ≠ -1 := by omega
  have hx1 := oz_b (b := b) (i := i)
  have hy1 := oz_b (b := b) (i := j)
  have hir : 0 ≤ i ∧ i < 32 := by
    by_cases q : 0 ≤ i ∧ i < 32 ∧ b i.toNat = true
    · exact ⟨q.1, q.2.1⟩
    · exact absurd (if_neg q) hzi
  have hjr : 0 ≤ j ∧ j < 32 := by
    by_cases q : 0 ≤ j ∧ j < 32 ∧ b j.toNat = true
    · exact ⟨q.1, q.2.1⟩
    · exact absurd (if_neg q) hzj
  refine t_0 oah_0 rfl (ld_a l0) ?_
  refine t_0 oah_1 rfl (ld_i l1) ?_
  refine t_3 oah_2 rfl (ar := ([pvR 189, oI (i)], [])) (pcal_w (as := [oI (i)]) rfl rfl rfl oeo_189) ⟨by omega, Nat.le_of_ble_eq_true rfl, Nat.le_of_ble_eq_true rfl, rfl⟩ ?_
  refine ohs_run (by omega) hS hpl ⟨by omega, by omega⟩ (fun t1 => ?_) (fun t1 => ?_) rfl rfl
  · show t_X d 59 5 lv [oI 1] g P
    refine tz_eq oah_5 (by decide) ⟨by omega, by omega⟩ (fun c2 => absurd c2 (by omega)) (fun c2 => ?_)
    show t_X d 59 8 lv [] g P
    refine t_0 oah_8 rfl (ld_a l0) ?_
    refine t_0 oah_9 rfl (ld_i l2) ?_
    refine t_3 oah_10 rfl (ar := ([pvR 189, oI (j)], [])) (pcal_w (as := [oI (j)]) rfl rfl rfl oeo_189) ⟨by omega, Nat.le_of_ble_eq_true rfl, Nat.le_of_ble_eq_true rfl, rfl⟩ ?_
    refine ohs_run (by omega) hS hpl ⟨by omega, by omega⟩ (fun t3 => ?_) (fun t3 => ?_) rfl rfl
    · show t_X d 59 13 lv [oI 1] g P
      refine tz_ne oah_13 (by decide) ⟨by omega, by omega⟩ (fun c4 => ?_) (fun c4 => absurd c4 (by omega))
      show t_X d 59 18 lv [] g P
      refine t_0 oah_18 rfl (ld_a l0) ?_
      refine t_0 oah_19 rfl (ocq_189_6 (S_J hS).1) ?_
      show t_X d 59 22 lv [pvR 192] g P
      refine t_0 oah_22 rfl (ld_a l0) ?_
      refine t_0 oah_23 rfl (ocq_189_5 (S_J hS).1) ?_
      show t_X d 59 26 lv [pvR 191, pvR 192] g P
      refine t_0 oah_26 rfl (ld_i l2) ?_
      have r5 := pb_a (S_J hS).1 oez_191 (j := j.toNat) (by omega) ogu_191 (show fA g 191 = pl from S_a hS 1 (Nat.le_of_ble_eq_true rfl))
      refine t_0 oah_27 rfl (pq_iv oez_191 rfl ⟨by omega, by omega⟩ (show fA g 191 = pl from S_a hS 1 (Nat.le_of_ble_eq_true rfl))) ?_
      show t_X d 59 28 lv [oI (pl j.toNat), pvR 192] g P
      rw [show pl j.toNat = (y : Int) from by rw [hpl _ (by omega), Int.toNat_of_nonneg (by omega), hy]]
      show t_X d 59 28 lv [oI ((y : Int)), pvR 192] g P
      refine t_0 oah_28 rfl rfl ?_
      have r6 := pb_a (S_J hS).1 oez_192 (j := (y : Int).toNat) (by omega) ogu_192 (show fA g 192 = ah from S_a hS 2 (Nat.le_of_ble_eq_true rfl))
      refine t_0 oah_29 rfl (pq_iv oez_192 rfl ⟨by omega, by omega⟩ (show fA g 192 = ah from S_a hS 2 (Nat.le_of_ble_eq_true rfl))) ?_
      show t_X d 59 30 lv [oI (ah ((y : Int).toNat)), oI ((y : Int)), pvR 192] g P
      rw [show ah (y : Int).toNat = (A y : Int) from (hA y (by omega)).1]
      show t_X d 59 30 lv [oI ((A y : Int)), oI ((y : Int)), pvR 192] g P
      refine t_0 oah_30 rfl rfl ?_
      refine t_0 oah_31 rfl (ld_a l0) ?_
      refine t_0 oah_32 rfl (ocq_189_5 (S_J hS).1) ?_
      show t_X d 59 35 lv [pvR 191, oI 1, oI ((A y : Int)), oI ((y : Int)), pvR 192] g P
      refine t_0 oah_35 rfl (ld_i l1) ?_
      have r7 := pb_a (S_J hS).1 oez_191 (j := i.toNat) (by omega) ogu_191 (show fA g 191 = pl from S_a hS 1 (Nat.le_of_ble_eq_true rfl))
      refine t_0 oah_36 rfl (pq_iv oez_191 rfl ⟨by omega, by omega⟩ (show fA g 191 = pl from S_a hS 1 (Nat.le_of_ble_eq_true rfl))) ?_
      show t_X d 59 37 lv [oI (pl i.toNat), oI 1, oI ((A y : Int)), oI ((y : Int)), pvR 192] g P
      rw [show pl i.toNat = (x : Int) from by rw [hpl _ (by omega), Int.toNat_of_nonneg (by omega), hx]]
      show t_X d 59 37 lv [oI ((x : Int)), oI 1, oI ((A y : Int)), oI ((y : Int)), pvR 192] g P
      refine t_0 oah_37 rfl rfl ?_
      have hA4 := (hA y (by omega)).2
      have hq2 : A y ||| 2 ^ x < 4096 := Nat.or_lt_two_pow (n := 12) hA4 (Nat.pow_lt_pow_right (by decide) (by omega))
      refine t_0 oah_38 rfl (pq_orx (s := A y) (k := x) (by omega) (by omega)) ?_
      refine ts_a (n := 2) rfl rfl (by decide) oah_39 hS oez_192 rfl wu_jO_192 ogu_192 (by decide) ⟨by omega, by omega⟩ ⟨by omega, by omega⟩ (fun g8 hS8 => ?_)
      replace hS8 : oE g0 g8 va vb vc (N : Int) nu pl (updI ah (y : Int).toNat ((A y ||| 2 ^ x : Nat) : Int)) wf wl la := hS8
      show t_X d 59 40 lv [] g8 P
      refine t_0 oah_40 rfl (ld_a l0) ?_
      refine t_3 oah_41 rfl (ar := ([pvR 189], [])) (pcal_w (as := []) rfl rfl rfl oeo_189) ⟨by omega, Nat.le_of_ble_eq_true rfl, Nat.le_of_ble_eq_true rfl, rfl⟩ ?_
      have hA2 : oAh (oA A x y) N (updI ah y ((A y ||| 2 ^ x : Nat) : Int)) := fun q hq => by
        unfold updI oA
        by_cases e : q = y
        · rw [if_pos e, if_pos e]; exact ⟨rfl, hq2⟩
        · rw [if_neg e, if_neg e]; exact hA q hq
      refine oca_run (by omega) hN hA2 hS8 (fun g9 wf9 hS9 hw9 => ?_) rfl
      have hb := oF_b (A := oA A x y) (S := 0) hN
      have ev : wf9 (2 ^ N - 1) = oR A N x y := by rw [hw9 _ (by omega), oW_F (by omega)]; exact b32_i (by omega) (by omega)
      rw [ev]
      show t_X d 59 44 lv [oI (oR A N x y)] g9 P
      refine t_5 oah_44 rfl rfl ?_
      exact hP _ _ _ hS9
    · exact absurd t3 hzj
  · exact absurd t1 hzi
theorem oth_run {d : Nat} {g : pH} {tl : Int} (htl : cF g 0 1 = tl) (ht : 0 ≤ tl ∧ tl ≤ 260) {n a b : Int} (hn : -2147483648 ≤ n ∧ n ≤ 2147483647) (ha : -2147483648 ≤ a ∧ a ≤ 2147483647) (hb : -2147483648 ≤ b ∧ b ≤ 2147483647) {P : Option pv × pH → Prop} (h1 : a ≤ n ∧ n ≤ b ∧ n ≤ tl → P (some (oI 1), g)) (h0 : ¬ (a ≤ n ∧ n ≤ b ∧ n ≤ tl) → P (some (oI 0), g)) {lv : List (Nat × pv)} (l0 : px_lg lv 0 = some (pvR 0)) (l1 : px_lg lv 1 = some (oI n)) (l2 : px_lg lv 2 = some (oI a)) (l3 : px_lg lv 3 = some (oI b)) : t_X d 151 0 lv [] g P := by
  refine t_0 oth_0 rfl (ld_i l1) ?_
  refine t_0 oth_1 rfl (ld_i l2) ?_
  refine tb_lt oth_2 (by decide) ⟨by omega, by omega⟩ ⟨by omega, by omega⟩ (fun c1 => ?_) (fun c1 => ?_)
  · show t_X d 151 22 lv [] g P
    refine t_0 oth_22 rfl rfl ?_
    refine t_5 oth_23 rfl rfl ?_
    exact h0 (by omega)
  · show t_X d 151 5 lv [] g P
    refine t_0 oth_5 rfl (ld_i l1) ?_
    refine t_0 oth_6 rfl (ld_i l3) ?_
    refine tb_gt oth_7 (by decide) ⟨by omega, by omega⟩ ⟨by omega, by omega⟩ (fun c2 => ?_) (fun c2 => ?_)
    · show t_X d 151 22 lv [] g P
      refine t_0 oth_22 rfl rfl ?_
      refine t_5 oth_23 rfl rfl ?_
      exact h0 (by omega)
    · show t_X d 151 10 lv [] g P
      refine t_0 oth_10 rfl (ld_i l1) ?_
      refine t_0 oth_11 rfl (ld_a l0) ?_
      refine t_0 oth_12 rfl (pq_cv oeo_0 rfl htl) ?_
      show t_X d 151 15 lv [oI (tl), oI (n)] g P
      refine tb_gt oth_15 (by decide) ⟨by omega, by omega⟩ ⟨by omega, by omega⟩ (fun c3 => ?_) (fun c3 => ?_)
      · show t_X d 151 22 lv [] g P
        refine t_0 oth_22 rfl rfl ?_
        refine t_5 oth_23 rfl rfl ?_
        exact h0 (by omega)
      · show t_X d 151 18 lv [] g P
        refine t_0 oth_18 rfl rfl ?_
        refine t_1 oth_19 rfl (pb_goto (pc := 19) (by decide)) ?_
        show t_X d 151 23 lv [oI 1] g P
        refine t_5 oth_23 rfl rfl ?_
        exact h1 ⟨by omega, by omega, by omega⟩
set_option maxHeartbeats 4000000 in
theorem osyL2 {d : Nat} (hd : 6 ≤ d) {g0 : pH} (hrS : rS g0) {va vb vc vn cl : Int} {nu pl ah wf wl la ca cb : tC} {B : tC} (hB : fA g0 1 = B) (hcl : cF g0 70 2 = cl) (hca : fA g0 71 = ca) (hcb : fA g0 72 = cb) (hcl2 : 0 ≤ cl ∧ cl ≤ 24) (hS : oE g0 g0 va vb vc vn nu pl ah wf wl la) {i j what : Int} (hi : -2147483648 ≤ i ∧ i ≤ 2147483647) (hj : -2147483648 ≤ j ∧ j ≤ 2147483647) (hw : -2147483648 ≤ what ∧ what ≤ 2147483647) {P : Option pv × pH → Prop} {N : Nat} (hN : N ≤ 12) (hno9 : ¬ oGd (toC g0) B N → ∀ g1 : pH, J_ jO g0 g1 → P (some (.inr (.inl (xe_k 9223372036854775806))), g1)) (hyes : ∀ (M : Int32), oBt (toC g0) B N M → ∀ (nu : tC), oNu (fun j => M.toBitVec.getLsbD j) nu → ∀ g1 : pH, J_ jO g0 g1 → P (some (.inr (.inl (oAn (oCk (oz_ (fun j => M.toBitVec.getLsbD j)) ca cb cl.toNat) N (fun j => M.toBitVec.getLsbD j) nu i j what))), g1)) {lv : List (Nat × pv)} (l0 : px_lg lv 0 = some (pvR 0)) (l1 : px_lg lv 1 = some (oI (N : Int))) (l2 : px_lg lv 2 = some (oI i)) (l3 : px_lg lv 3 = some (oI j)) (l4 : px_lg lv 4 = some (oI what)) : t_X d 142 25 lv [] g0 P := by
  refine t_0 osy9_25 rfl (ld_a l0) ?_
  refine t_0 osy9_26 rfl (ocq_0_12 (S_J hS).1) ?_
  show t_X d 142 29 lv [pvR 189] g0 P
  refine t_0 osy9_29 rfl (ld_a l0) ?_
  refine t_0 osy9_30 rfl (ocq_0_0 (S_J hS).1) ?_
  show t_X d 142 33 lv [pvR 1, pvR 189] g0 P
  refine t_0 osy9_33 rfl (ld_i l1) ?_
  refine t_0 osy9_34 rfl (ld_a l0) ?_
  refine t_0 osy9_35 rfl (ocq_0_2 (S_J hS).1) ?_
  show t_X d 142 38 lv [pvR 2, oI ((N : Int)), pvR 1, pvR 189] g0 P
  refine t_3 osy9_38 rfl (ar := ([pvR 189, pvR 1, oI ((N : Int)), pvR 2], [])) (pcal_w (as := [pvR 2, oI ((N : Int)), pvR 1]) rfl rfl rfl oeo_189) ⟨by omega, Nat.le_of_ble_eq_true rfl, Nat.le_of_ble_eq_true rfl, rfl⟩ ?_
  refine otk_run (by omega) hN hrS hB hcl hca hcb hcl2 hS (fun hno => ?_) (fun M hM g1 nu1 pl1 ah1 hpl hnu hah hS1 => ?_) rfl rfl rfl rfl
  · show t_X d 142 41 lv [oI 0] g0 P
    refine t_2 osy9_41 rfl (w := (px_s1 lv 5 (oI 0), [])) rfl ?_
    replace l0 : px_lg (px_s1 lv 5 (oI 0)) 0 = some (pvR 0) := s1_ne (by decide) (fun _ => rfl) l0
    replace l1 : px_lg (px_s1 lv 5 (oI 0)) 1 = some (oI ((N : Int))) := s1_ne (by decide) (fun _ => rfl) l1
    replace l2 : px_lg (px_s1 lv 5 (oI 0)) 2 = some (oI (i)) := s1_ne (by decide) (fun _ => rfl) l2
    replace l3 : px_lg (px_s1 lv 5 (oI 0)) 3 = some (oI (j)) := s1_ne (by decide) (fun _ => rfl) l3
    replace l4 : px_lg (px_s1 lv 5 (oI 0)) 4 = some (oI (what)) := s1_ne (by decide) (fun _ => rfl) l4
    have l5 : px_lg (px_s1 lv 5 (oI 0)) 5 = some (oI 0) := s1_eq
    generalize px_s1 lv 5 (oI 0) = lv1 at l0 l1 l2 l3 l4 l5 ⊢
    show t_X d 142 43 lv1 [] g0 P
    refine t_0 osy9_43 rfl (ld_a l0) ?_
    refine t_0 osy9_44 rfl rfl ?_
    refine ts_f0 (by decide) osy9_45 rfl oeo_0 hS wt_jO_0_1 ogy_0_1 (by decide) ⟨by omega, by omega⟩ (fun g2 hS2 => ?_)
    replace hS2 : oE g0 g2 va vb vc vn nu pl ah wf wl la := hS2
    show t_X d 142 48 lv1 [] g2 P
    refine t_0 osy9_48 rfl (ld_i l5) ?_
    refine tz_ne osy9_50 (by decide) ⟨by omega, by omega⟩ (fun c3 => absurd c3 (by omega)) (fun c3 => ?_)
    show t_X d 142 53 lv1 [] g2 P
    refine t_0 osy9_53 rfl rfl ?_
    refine t_5 osy9_56 rfl rfl ?_
    exact hno9 hno _ (S_J hS2)
  · have hA : oAh (oCk (oz_ (fun j => M.toBitVec.getLsbD j)) ca cb cl.toNat) N ah1 := fun q hq => ⟨hah q hq, oCk_b (by rw [hM.2.2]; exact hN)⟩
    show t_X d 142 41 lv [oI 1] g1 P
    refine t_2 osy9_41 rfl (w := (px_s1 lv 5 (oI 1), [])) rfl ?_
    replace l0 : px_lg (px_s1 lv 5 (oI 1)) 0 = some (pvR 0) := s1_ne (by decide) (fun _ => rfl) l0
    replace l1 : px_lg (px_s1 lv 5 (oI 1)) 1 = some (oI ((N : Int))) := s1_ne (by decide) (fun _ => rfl) l1
    replace l2 : px_lg (px_s1 lv 5 (oI 1)) 2 = some (oI (i)) := s1_ne (by decide) (fun _ => rfl) l2
    replace l3 : px_lg (px_s1 lv 5 (oI 1)) 3 = some (oI (j)) := s1_ne (by decide) (fun _ => rfl) l3
    replace l4 : px_lg (px_s1 lv 5 (oI 1)) 4 = some (oI (what)) := s1_ne (by decide) (fun _ => rfl) l4
    have l5 : px_lg (px_s1 lv 5 (oI 1)) 5 = some (oI 1) := s1_eq
    generalize px_s1 lv 5 (oI 1) = lv4 at l0 l1 l2 l3 l4 l5 ⊢
    show t_X d 142 43 lv4 [] g1 P
    refine t_0 osy9_43 rfl (ld_a l0) ?_
    refine t_0 osy9_44 rfl rfl ?_
    refine ts_f0 (by decide) osy9_45 rfl oeo_0 hS1 wt_jO_0_1 ogy_0_1 (by decide) ⟨by omega, by omega⟩ (fun g5 hS5 => ?_)
    replace hS5 : oE g0 g5 va vb vc (N : Int) nu1 pl1 ah1 wf wl la := hS5
    show t_X d 142 48 lv4 [] g5 P
    refine t_0 osy9_48 rfl (ld_i l5) ?_
    refine tz_ne osy9_50 (by decide) ⟨by omega, by omega⟩ (fun c6 => ?_) (fun c6 => absurd c6 (by omega))
    show t_X d 142 57 lv4 [] g5 P
    refine t_0 osy9_57 rfl (ld_i l4) ?_
    refine tz_ne osy9_59 (by decide) ⟨by omega, by omega⟩ (fun c7 => ?_) (fun c7 => ?_)
    · show t_X d 142 118 lv4 [] g5 P
      refine t_0 osy9_118 rfl (ld_a l0) ?_
      refine t_0 osy9_119 rfl (ocq_0_12 (S_J hS5).1) ?_
      show t_X d 142 122 lv4 [pvR 189] g5 P
      refine t_3 osy9_122 rfl (ar := ([pvR 189], [])) (pcal_w (as := []) rfl rfl rfl oeo_189) ⟨by omega, Nat.le_of_ble_eq_true rfl, Nat.le_of_ble_eq_true rfl, rfl⟩ ?_
      refine oft_run (by omega) hN hA hS5 (fun g3 wf3 wl3 la3 st hst hS3 => ?_) rfl
      show t_X d 142 125 lv4 [] g3 P
      have hr0 := cb_i (S_J hS3).1 oeo_189 (y := 0) (Nat.le_of_ble_eq_true rfl) rfl ogy_189_0
      rw [show cF g3 189 0 = oNm nu1 st.2.1 from S_f hS3 0 (Nat.le_of_ble_eq_true rfl)] at hr0
      have hr1 := cb_i (S_J hS3).1 oeo_189 (y := 1) (Nat.le_of_ble_eq_true rfl) rfl ogy_189_1
      rw [show cF g3 189 1 = oNm nu1 st.2.2 from S_f hS3 1 (Nat.le_of_ble_eq_true rfl)] at hr1
      have hr2 := cb_i (S_J hS3).1 oeo_189 (y := 2) (Nat.le_of_ble_eq_true rfl) rfl ogy_189_2
      rw [show cF g3 189 2 = st.1 from S_f hS3 2 (Nat.le_of_ble_eq_true rfl)] at hr2
      refine t_0 osy9_125 rfl (ld_a l0) ?_
      refine t_0 osy9_126 rfl (ocq_0_12 (S_J hS3).1) ?_
      show t_X d 142 129 lv4 [pvR 189] g3 P
      refine t_0 osy9_129 rfl (pq_cv oeo_189 rfl (show cF g3 189 2 = st.1 from S_f hS3 2 (Nat.le_of_ble_eq_true rfl))) ?_
      show t_X d 142 132 lv4 [oI (st.1)] g3 P
      refine tz_ne osy9_132 (by decide) ⟨by omega, by omega⟩ (fun c8 => ?_) (fun c8 => ?_)
      · show t_X d 142 139 lv4 [] g3 P
        refine t_0 osy9_139 rfl (ld_i l4) ?_
        refine t_0 osy9_141 rfl rfl ?_
        refine tb_ne osy9_142 (by decide) ⟨by omega, by omega⟩ ⟨by omega, by omega⟩ (fun c9 => ?_) (fun c9 => ?_)
        · show t_X d 142 154 lv4 [] g3 P
          refine t_0 osy9_154 rfl (ld_i l4) ?_
          refine t_0 osy9_156 rfl rfl ?_
          refine tb_ne osy9_157 (by decide) ⟨by omega, by omega⟩ ⟨by omega, by omega⟩ (fun c10 => ?_) (fun c10 => ?_)
          · show t_X d 142 171 lv4 [] g3 P
            refine t_0 osy9_171 rfl (ld_a l0) ?_
            refine t_0 osy9_172 rfl (ocq_0_12 (S_J hS3).1) ?_
            show t_X d 142 175 lv4 [pvR 189] g3 P
            refine t_0 osy9_175 rfl (pq_cv oeo_189 rfl (show cF g3 189 2 = st.1 from S_f hS3 2 (Nat.le_of_ble_eq_true rfl))) ?_
            show t_X d 142 178 lv4 [oI (st.1)] g3 P
            refine t_0 osy9_178 rfl rfl ?_
            refine t_5 osy9_179 rfl rfl ?_
            have hfin := hyes M hM nu1 hnu _ (S_J hS3)
            unfold oAn at hfin
            rw [if_neg (by omega), ← hst] at hfin
            rw [if_neg (by omega)] at hfin
            rw [if_neg (by omega), if_neg (by omega)] at hfin
            rw [oil (by omega) (by omega)]
            exact hfin
          · show t_X d 142 160 lv4 [] g3 P
            refine t_0 osy9_160 rfl (ld_a l0) ?_
            refine t_0 osy9_161 rfl (ocq_0_12 (S_J hS3).1) ?_
            show t_X d 142 164 lv4 [pvR 189] g3 P
            refine t_0 osy9_164 rfl (pq_cv oeo_189 rfl (show cF g3 189 1 = oNm nu1 st.2.2 from S_f hS3 1 (Nat.le_of_ble_eq_true rfl))) ?_
            show t_X d 142 167 lv4 [oI (oNm nu1 st.2.2)] g3 P
            refine t_0 osy9_167 rfl rfl ?_
            refine t_1 osy9_168 rfl (pb_goto (pc := 168) (by decide)) ?_
            show t_X d 142 179 lv4 [.inr (.inl (Int32.toInt64 (Int32.ofInt (oNm nu1 st.2.2))))] g3 P
            refine t_5 osy9_179 rfl rfl ?_
            have hfin := hyes M hM nu1 hnu _ (S_J hS3)
            unfold oAn at hfin
            rw [if_neg (by omega), ← hst] at hfin
            rw [if_neg (by omega)] at hfin
            rw [if_neg (by omega), if_pos (by omega)] at hfin
            rw [oil (by omega) (by omega)]
            exact hfin
        · show t_X d 142 145 lv4 [] g3 P
          refine t_0 osy9_145 rfl (ld_a l0) ?_
          refine t_0 osy9_146 rfl (ocq_0_12 (S_J hS3).1) ?_
          show t_X d 142 149 lv4 [pvR 189] g3 P
          refine t_0 osy9_149 rfl (pq_cv oeo_189 rfl (show cF g3 189 0 = oNm nu1 st.2.1 from S_f hS3 0 (Nat.le_of_ble_eq_true rfl))) ?_
          show t_X d 142 152 lv4 [oI (oNm nu1 st.2.1)] g3 P
          refine t_0 osy9_152 rfl rfl ?_
          refine t_5 osy9_153 rfl rfl ?_
          have hfin := hyes M hM nu1 hnu _ (S_J hS3)
          unfold oAn at hfin
          rw [if_neg (by omega), ← hst] at hfin
          rw [if_neg (by omega)] at hfin
          rw [if_pos (by omega)] at hfin
          rw [oil (by omega) (by omega)]
          exact hfin
      · show t_X d 142 135 lv4 [] g3 P
        refine t_0 osy9_135 rfl rfl ?_
        refine t_5 osy9_138 rfl rfl ?_
        have hfin := hyes M hM nu1 hnu _ (S_J hS3)
        unfold oAn at hfin
        rw [if_neg (by omega), ← hst] at hfin
        rw [if_pos (by omega)] at hfin
        exact hfin
    · show t_X d 142 62 lv4 [] g5 P
      refine t_0 osy9_62 rfl (ld_i l2) ?_
      refine t_0 osy9_63 rfl (ld_i l3) ?_
      refine tb_eq osy9_64 (by decide) ⟨by omega, by omega⟩ ⟨by omega, by omega⟩ (fun c11 => ?_) (fun c11 => ?_)
      · show t_X d 142 93 lv4 [] g5 P
        refine t_0 osy9_93 rfl rfl ?_
        refine t_2 osy9_94 rfl (w := (px_s1 lv4 6 (oI 0), [])) rfl ?_
        replace l0 : px_lg (px_s1 lv4 6 (oI 0)) 0 = some (pvR 0) := s1_ne (by decide) (fun _ => rfl) l0
        replace l1 : px_lg (px_s1 lv4 6 (oI 0)) 1 = some (oI ((N : Int))) := s1_ne (by decide) (fun _ => rfl) l1
        replace l2 : px_lg (px_s1 lv4 6 (oI 0)) 2 = some (oI (i)) := s1_ne (by decide) (fun _ => rfl) l2
        replace l3 : px_lg (px_s1 lv4 6 (oI 0)) 3 = some (oI (j)) := s1_ne (by decide) (fun _ => rfl) l3
        replace l4 : px_lg (px_s1 lv4 6 (oI 0)) 4 = some (oI (what)) := s1_ne (by decide) (fun _ => rfl) l4
        replace l5 : px_lg (px_s1 lv4 6 (oI 0)) 5 = some (oI 1) := s1_ne (by decide) (fun _ => rfl) l5
        have l6 : px_lg (px_s1 lv4 6 (oI 0)) 6 = some (oI 0) := s1_eq
        generalize px_s1 lv4 6 (oI 0) = lv12 at l0 l1 l2 l3 l4 l5 l6 ⊢
        show t_X d 142 96 lv12 [] g5 P
        refine t_0 osy9_96 rfl (ld_i l6) ?_
        refine tz_eq osy9_98 (by decide) ⟨by omega, by omega⟩ (fun c13 => ?_) (fun c13 => absurd c13 (by omega))
        show t_X d 142 114 lv12 [] g5 P
        refine t_0 osy9_114 rfl rfl ?_
        refine t_5 osy9_117 rfl rfl ?_
        have hfin := hyes M hM nu1 hnu _ (S_J hS5)
        unfold oAn at hfin
        rw [if_pos (by omega), if_neg (by omega)] at hfin
        exact hfin
      · show t_X d 142 67 lv4 [] g5 P
        refine t_0 osy9_67 rfl (ld_a l0) ?_
        refine t_0 osy9_68 rfl (ocq_0_12 (S_J hS5).1) ?_
        show t_X d 142 71 lv4 [pvR 189] g5 P
        refine t_0 osy9_71 rfl (ld_i l2) ?_
        refine t_3 osy9_72 rfl (ar := ([pvR 189, oI (i)], [])) (pcal_w (as := [oI (i)]) rfl rfl rfl oeo_189) ⟨by omega, Nat.le_of_ble_eq_true rfl, Nat.le_of_ble_eq_true rfl, rfl⟩ ?_
        refine ohs_run (by omega) hS5 hpl ⟨by omega, by omega⟩ (fun t14 => ?_) (fun t14 => ?_) rfl rfl
        · show t_X d 142 75 lv4 [oI 1] g5 P
          refine tz_eq osy9_75 (by decide) ⟨by omega, by omega⟩ (fun c15 => absurd c15 (by omega)) (fun c15 => ?_)
          show t_X d 142 78 lv4 [] g5 P
          refine t_0 osy9_78 rfl (ld_a l0) ?_
          refine t_0 osy9_79 rfl (ocq_0_12 (S_J hS5).1) ?_
          show t_X d 142 82 lv4 [pvR 189] g5 P
          refine t_0 osy9_82 rfl (ld_i l3) ?_
          refine t_3 osy9_83 rfl (ar := ([pvR 189, oI (j)], [])) (pcal_w (as := [oI (j)]) rfl rfl rfl oeo_189) ⟨by omega, Nat.le_of_ble_eq_true rfl, Nat.le_of_ble_eq_true rfl, rfl⟩ ?_
          refine ohs_run (by omega) hS5 hpl ⟨by omega, by omega⟩ (fun t16 => ?_) (fun t16 => ?_) rfl rfl
          · show t_X d 142 86 lv4 [oI 1] g5 P
            refine tz_eq osy9_86 (by decide) ⟨by omega, by omega⟩ (fun c17 => absurd c17 (by omega)) (fun c17 => ?_)
            show t_X d 142 89 lv4 [] g5 P
            refine t_0 osy9_89 rfl rfl ?_
            refine t_1 osy9_90 rfl (pb_goto (pc := 90) (by decide)) ?_
            show t_X d 142 94 lv4 [oI 1] g5 P
            refine t_2 osy9_94 rfl (w := (px_s1 lv4 6 (oI 1), [])) rfl ?_
            replace l0 : px_lg (px_s1 lv4 6 (oI 1)) 0 = some (pvR 0) := s1_ne (by decide) (fun _ => rfl) l0
            replace l1 : px_lg (px_s1 lv4 6 (oI 1)) 1 = some (oI ((N : Int))) := s1_ne (by decide) (fun _ => rfl) l1
            replace l2 : px_lg (px_s1 lv4 6 (oI 1)) 2 = some (oI (i)) := s1_ne (by decide) (fun _ => rfl) l2
            replace l3 : px_lg (px_s1 lv4 6 (oI 1)) 3 = some (oI (j)) := s1_ne (by decide) (fun _ => rfl) l3
            replace l4 : px_lg (px_s1 lv4 6 (oI 1)) 4 = some (oI (what)) := s1_ne (by decide) (fun _ => rfl) l4
            replace l5 : px_lg (px_s1 lv4 6 (oI 1)) 5 = some (oI 1) := s1_ne (by decide) (fun _ => rfl) l5
            have l6 : px_lg (px_s1 lv4 6 (oI 1)) 6 = some (oI 1) := s1_eq
            generalize px_s1 lv4 6 (oI 1) = lv18 at l0 l1 l2 l3 l4 l5 l6 ⊢
            show t_X d 142 96 lv18 [] g5 P
            refine t_0 osy9_96 rfl (ld_i l6) ?_
            refine tz_eq osy9_98 (by decide) ⟨by omega, by omega⟩ (fun c19 => absurd c19 (by omega)) (fun c19 => ?_)
            show t_X d 142 101 lv18 [] g5 P
            refine t_0 osy9_101 rfl (ld_a l0) ?_
            refine t_0 osy9_102 rfl (ocq_0_12 (S_J hS5).1) ?_
            show t_X d 142 105 lv18 [pvR 189] g5 P
            refine t_0 osy9_105 rfl (ld_i l2) ?_
            refine t_0 osy9_106 rfl (ld_i l3) ?_
            refine t_3 osy9_107 rfl (ar := ([pvR 189, oI (i), oI (j)], [])) (pcal_w (as := [oI (j), oI (i)]) rfl rfl rfl oeo_189) ⟨by omega, Nat.le_of_ble_eq_true rfl, Nat.le_of_ble_eq_true rfl, rfl⟩ ?_
            obtain ⟨x, hx⟩ : ∃ x : Nat, oz_ (fun j => M.toBitVec.getLsbD j) i = x := ⟨(oz_ (fun j => M.toBitVec.getLsbD j) i).toNat, by have := oz_b (b := (fun j => M.toBitVec.getLsbD j)) (i := i); omega⟩
            obtain ⟨y, hy⟩ : ∃ y : Nat, oz_ (fun j => M.toBitVec.getLsbD j) j = y := ⟨(oz_ (fun j => M.toBitVec.getLsbD j) j).toNat, by have := oz_b (b := (fun j => M.toBitVec.getLsbD j)) (i := j); omega⟩
            refine oah_run (by omega) hN hA hM.2.2 hpl hS5 ⟨by omega, by omega⟩ ⟨by omega, by omega⟩ hx hy (fun g2 ah2 wf2 hS2 => ?_) rfl rfl rfl
            show t_X d 142 110 lv18 [oI (oR (oCk (oz_ (fun j => M.toBitVec.getLsbD j)) ca cb cl.toNat) N x y)] g2 P
            refine t_0 osy9_110 rfl rfl ?_
            refine t_1 osy9_111 rfl (pb_goto (pc := 111) (by decide)) ?_
            show t_X d 142 117 lv18 [.inr (.inl (Int32.toInt64 (Int32.ofInt (oR (oCk (oz_ (fun j => M.toBitVec.getLsbD j)) ca cb cl.toNat) N x y))))] g2 P
            refine t_5 osy9_117 rfl rfl ?_
            have hfin := hyes M hM nu1 hnu _ (S_J hS2)
            unfold oAn at hfin
            rw [if_pos (by omega), if_pos ⟨by omega, t14, t16⟩, hx, hy] at hfin
            have hb9 := oF_b (A := oA (oCk (oz_ (fun j => M.toBitVec.getLsbD j)) ca cb cl.toNat) x y) (S := 0) hN
            rw [oil (x := oR (oCk (oz_ (fun j => M.toBitVec.getLsbD j)) ca cb cl.toNat) N x y) (by unfold oR; omega) (by unfold oR; omega)]
            exact hfin
          · show t_X d 142 86 lv4 [oI 0] g5 P
            refine tz_eq osy9_86 (by decide) ⟨by omega, by omega⟩ (fun c20 => ?_) (fun c20 => absurd c20 (by omega))
            show t_X d 142 93 lv4 [] g5 P
            refine t_0 osy9_93 rfl rfl ?_
            refine t_2 osy9_94 rfl (w := (px_s1 lv4 6 (oI 0), [])) rfl ?_
            replace l0 : px_lg (px_s1 lv4 6 (oI 0)) 0 = some (pvR 0) := s1_ne (by decide) (fun _ => rfl) l0
            replace l1 : px_lg (px_s1 lv4 6 (oI 0)) 1 = some (oI ((N : Int))) := s1_ne (by decide) (fun _ => rfl) l1
            replace l2 : px_lg (px_s1 lv4 6 (oI 0)) 2 = some (oI (i)) := s1_ne (by decide) (fun _ => rfl) l2
            replace l3 : px_lg (px_s1 lv4 6 (oI 0)) 3 = some (oI (j)) := s1_ne (by decide) (fun _ => rfl) l3
            replace l4 : px_lg (px_s1 lv4 6 (oI 0)) 4 = some (oI (what)) := s1_ne (by decide) (fun _ => rfl) l4
            replace l5 : px_lg (px_s1 lv4 6 (oI 0)) 5 = some (oI 1) := s1_ne (by decide) (fun _ => rfl) l5
            have l6 : px_lg (px_s1 lv4 6 (oI 0)) 6 = some (oI 0) := s1_eq
            generalize px_s1 lv4 6 (oI 0) = lv21 at l0 l1 l2 l3 l4 l5 l6 ⊢
            show t_X d 142 96 lv21 [] g5 P
            refine t_0 osy9_96 rfl (ld_i l6) ?_
            refine tz_eq osy9_98 (by decide) ⟨by omega, by omega⟩ (fun c22 => ?_) (fun c22 => absurd c22 (by omega))
            show t_X d 142 114 lv21 [] g5 P
            refine t_0 osy9_114 rfl rfl ?_
            refine t_5 osy9_117 rfl rfl ?_
            have hfin := hyes M hM nu1 hnu _ (S_J hS5)
            unfold oAn at hfin
            rw [if_pos (by omega), if_neg (fun z => z.2.2 t16)] at hfin
            exact hfin
        · show t_X d 142 75 lv4 [oI 0] g5 P
          refine tz_eq osy9_75 (by decide) ⟨by omega, by omega⟩ (fun c23 => ?_) (fun c23 => absurd c23 (by omega))
          show t_X d 142 93 lv4 [] g5 P
          refine t_0 osy9_93 rfl rfl ?_
          refine t_2 osy9_94 rfl (w := (px_s1 lv4 6 (oI 0), [])) rfl ?_
          replace l0 : px_lg (px_s1 lv4 6 (oI 0)) 0 = some (pvR 0) := s1_ne (by decide) (fun _ => rfl) l0
          replace l1 : px_lg (px_s1 lv4 6 (oI 0)) 1 = some (oI ((N : Int))) := s1_ne (by decide) (fun _ => rfl) l1
          replace l2 : px_lg (px_s1 lv4 6 (oI 0)) 2 = some (oI (i)) := s1_ne (by decide) (fun _ => rfl) l2
          replace l3 : px_lg (px_s1 lv4 6 (oI 0)) 3 = some (oI (j)) := s1_ne (by decide) (fun _ => rfl) l3
          replace l4 : px_lg (px_s1 lv4 6 (oI 0)) 4 = some (oI (what)) := s1_ne (by decide) (fun _ => rfl) l4
          replace l5 : px_lg (px_s1 lv4 6 (oI 0)) 5 = some (oI 1) := s1_ne (by decide) (fun _ => rfl) l5
          have l6 : px_lg (px_s1 lv4 6 (oI 0)) 6 = some (oI 0) := s1_eq
          generalize px_s1 lv4 6 (oI 0) = lv24 at l0 l1 l2 l3 l4 l5 l6 ⊢
          show t_X d 142 96 lv24 [] g5 P
          refine t_0 osy9_96 rfl (ld_i l6) ?_
          refine tz_eq osy9_98 (by decide) ⟨by omega, by omega⟩ (fun c25 => ?_) (fun c25 => absurd c25 (by omega))
          show t_X d 142 114 lv24 [] g5 P
          refine t_0 osy9_114 rfl rfl ?_
          refine t_5 osy9_117 rfl rfl ?_
          have hfin := hyes M hM nu1 hnu _ (S_J hS5)
          unfold oAn at hfin
          rw [if_pos (by omega), if_neg (fun z => z.2.1 t14)] at hfin
          exact hfin
set_option maxHeartbeats 1000000 in
theorem osy_run {d : Nat} (hd : 6 ≤ d) {g0 : pH} (hrS : rS g0) {va vb vc vn cl : Int} {nu pl ah wf wl la ca cb : tC} {B : tC} (hB : fA g0 1 = B) (hcl : cF g0 70 2 = cl) (hca : fA g0 71 = ca) (hcb : fA g0 72 = cb) (hcl2 : 0 ≤ cl ∧ cl ≤ 24) (hS : oE g0 g0 va vb vc vn nu pl ah wf wl la) {i j what : Int} (hi : -2147483648 ≤ i ∧ i ≤ 2147483647) (hj : -2147483648 ≤ j ∧ j ≤ 2147483647) (hw : -2147483648 ≤ what ∧ what ≤ 2147483647) {P : Option pv × pH → Prop} {n tl : Int} (htl : cF g0 0 1 = tl) (ht : 0 ≤ tl ∧ tl ≤ 260) (hn : -2147483648 ≤ n ∧ n ≤ 2147483647) (hR : ¬ (2 ≤ n ∧ n ≤ 12 ∧ n ≤ tl ∧ 0 ≤ what ∧ what ≤ 3) → P (some (.inr (.inl (xe_k 9223372036854775807))), g0)) (hno9 : ∀ N : Nat, n = N → (2 ≤ n ∧ n ≤ 12 ∧ n ≤ tl ∧ 0 ≤ what ∧ what ≤ 3) → ¬ oGd (toC g0) B N → ∀ g1 : pH, J_ jO g0 g1 → P (some (.inr (.inl (xe_k 9223372036854775806))), g1)) (hyes : ∀ N : Nat, n = N → (2 ≤ n ∧ n ≤ 12 ∧ n ≤ tl ∧ 0 ≤ what ∧ what ≤ 3) → ∀ (M : Int32), oBt (toC g0) B N M → ∀ (nu : tC), oNu (fun j => M.toBitVec.getLsbD j) nu → ∀ g1 : pH, J_ jO g0 g1 → P (some (.inr (.inl (oAn (oCk (oz_ (fun j => M.toBitVec.getLsbD j)) ca cb cl.toNat) N (fun j => M.toBitVec.getLsbD j) nu i j what))), g1)) {lv : List (Nat × pv)} (l0 : px_lg lv 0 = some (pvR 0)) (l1 : px_lg lv 1 = some (oI n)) (l2 : px_lg lv 2 = some (oI i)) (l3 : px_lg lv 3 = some (oI j)) (l4 : px_lg lv 4 = some (oI what)) : t_X d 142 0 lv [] g0 P := by
  refine t_0 osy9_0 rfl (ld_a l0) ?_
  refine t_0 osy9_1 rfl (ld_i l1) ?_
  refine t_0 osy9_2 rfl rfl ?_
  refine t_0 osy9_3 rfl (pq_b (by decide)) ?_
  refine t_3 osy9_5 rfl (ar := ([pvR 0, oI (n), oI 2, oI 12], [])) (pcal_w (as := [oI 12, oI 2, oI (n)]) rfl rfl rfl oeo_0) ⟨by omega, Nat.le_of_ble_eq_true rfl, Nat.le_of_ble_eq_true rfl, rfl⟩ ?_
  refine oth_run htl ht ⟨by omega, by omega⟩ ⟨by omega, by omega⟩ ⟨by omega, by omega⟩ (fun t1 => ?_) (fun t1 => ?_) rfl rfl rfl rfl
  · show t_X d 142 8 lv [oI 1] g0 P
    refine tz_eq osy9_8 (by decide) ⟨by omega, by omega⟩ (fun c2 => absurd c2 (by omega)) (fun c2 => ?_)
    show t_X d 142 11 lv [] g0 P
    refine t_0 osy9_11 rfl (ld_i l4) ?_
    refine t_0 osy9_13 rfl rfl ?_
    refine t_0 osy9_14 rfl rfl ?_
    refine t_3 osy9_15 rfl (ar := ([oI (what), oI 0, oI 3], [])) (pcal_s ⟨Or.inl rfl, rfl, Nat.le_of_ble_eq_true rfl⟩) ⟨by omega, Nat.le_of_ble_eq_true rfl, Nat.le_of_ble_eq_true rfl, rfl⟩ ?_
    refine ii_run ⟨by omega, by omega⟩ ⟨by omega, by omega⟩ ⟨by omega, by omega⟩ rfl rfl rfl (fun t3 => ?_) (fun t3 => ?_)
    · show t_X d 142 18 lv [oI 1] g0 P
      refine tz_ne osy9_18 (by decide) ⟨by omega, by omega⟩ (fun c4 => ?_) (fun c4 => absurd c4 (by omega))
      show t_X d 142 25 lv [] g0 P
      obtain ⟨N, rfl⟩ : ∃ N : Nat, n = N := ⟨n.toNat, by omega⟩
      exact osyL2 hd hrS hB hcl hca hcb hcl2 hS hi hj hw (by omega) (hno9 N rfl (by omega)) (hyes N rfl (by omega)) l0 l1 l2 l3 l4
    · show t_X d 142 18 lv [oI 0] g0 P
      refine tz_ne osy9_18 (by decide) ⟨by omega, by omega⟩ (fun c5 => absurd c5 (by omega)) (fun c5 => ?_)
      show t_X d 142 21 lv [] g0 P
      refine t_0 osy9_21 rfl rfl ?_
      refine t_5 osy9_24 rfl rfl ?_
      exact hR (by omega)
  · show t_X d 142 8 lv [oI 0] g0 P
    refine tz_eq osy9_8 (by decide) ⟨by omega, by omega⟩ (fun c6 => ?_) (fun c6 => absurd c6 (by omega))
    show t_X d 142 21 lv [] g0 P
    refine t_0 osy9_21 rfl rfl ?_
    refine t_5 osy9_24 rfl rfl ?_
    exact hR (by omega)
