/-! by hand: the law's reader, small methods (printed in part by wip/e2/la.py) -/
theorem qfo_0 : xe_look (xc 188) 0 = some (.iload_n 0, 1, 0, 0, 0) := by decide +kernel
theorem qfo_1 : xe_look (xc 188) 1 = some (.tableswitch 146 97 122 #[123, 146, 146, 146, 140, 146, 146, 146, 119, 146, 121, 137, 129, 146, 131, 146, 127, 146, 146, 146, 146, 134, 146, 146, 125, 143], 119, 0, 0, 0) := by decide +kernel
theorem qfo_120 : xe_look (xc 188) 120 = some (.iconst 0, 1, 0, 0, 0) := by decide +kernel
theorem qfo_121 : xe_look (xc 188) 121 = some (.ireturn, 1, 0, 0, 0) := by decide +kernel
theorem qfo_122 : xe_look (xc 188) 122 = some (.iconst 1, 1, 0, 0, 0) := by decide +kernel
theorem qfo_123 : xe_look (xc 188) 123 = some (.ireturn, 1, 0, 0, 0) := by decide +kernel
theorem qfo_124 : xe_look (xc 188) 124 = some (.iconst 2, 1, 0, 0, 0) := by decide +kernel
theorem qfo_125 : xe_look (xc 188) 125 = some (.ireturn, 1, 0, 0, 0) := by decide +kernel
theorem qfo_126 : xe_look (xc 188) 126 = some (.iconst 3, 1, 0, 0, 0) := by decide +kernel
theorem qfo_127 : xe_look (xc 188) 127 = some (.ireturn, 1, 0, 0, 0) := by decide +kernel
theorem qfo_128 : xe_look (xc 188) 128 = some (.iconst 4, 1, 0, 0, 0) := by decide +kernel
theorem qfo_129 : xe_look (xc 188) 129 = some (.ireturn, 1, 0, 0, 0) := by decide +kernel
theorem qfo_130 : xe_look (xc 188) 130 = some (.iconst 5, 1, 0, 0, 0) := by decide +kernel
theorem qfo_131 : xe_look (xc 188) 131 = some (.ireturn, 1, 0, 0, 0) := by decide +kernel
theorem qfo_132 : xe_look (xc 188) 132 = some (.bipush 6, 2, 0, 0, 0) := by decide +kernel
theorem qfo_134 : xe_look (xc 188) 134 = some (.ireturn, 1, 0, 0, 0) := by decide +kernel
theorem qfo_135 : xe_look (xc 188) 135 = some (.bipush 7, 2, 0, 0, 0) := by decide +kernel
theorem qfo_137 : xe_look (xc 188) 137 = some (.ireturn, 1, 0, 0, 0) := by decide +kernel
theorem qfo_138 : xe_look (xc 188) 138 = some (.bipush 8, 2, 0, 0, 0) := by decide +kernel
theorem qfo_140 : xe_look (xc 188) 140 = some (.ireturn, 1, 0, 0, 0) := by decide +kernel
theorem qfo_141 : xe_look (xc 188) 141 = some (.bipush 9, 2, 0, 0, 0) := by decide +kernel
theorem qfo_143 : xe_look (xc 188) 143 = some (.ireturn, 1, 0, 0, 0) := by decide +kernel
theorem qfo_144 : xe_look (xc 188) 144 = some (.bipush 10, 2, 0, 0, 0) := by decide +kernel
theorem qfo_146 : xe_look (xc 188) 146 = some (.ireturn, 1, 0, 0, 0) := by decide +kernel
theorem qfo_147 : xe_look (xc 188) 147 = some (.iconst (-1), 1, 0, 0, 0) := by decide +kernel
theorem qfo_148 : xe_look (xc 188) 148 = some (.ireturn, 1, 0, 0, 0) := by decide +kernel
theorem qic_0 : xe_look (xc 202) 0 = some (.iload_n 0, 1, 0, 0, 0) := by decide +kernel
theorem qic_1 : xe_look (xc 202) 1 = some (.bipush 119, 2, 0, 0, 0) := by decide +kernel
theorem qic_3 : xe_look (xc 202) 3 = some (.if_icmp .eq 45, 3, 0, 0, 0) := by decide +kernel
theorem qic_6 : xe_look (xc 202) 6 = some (.iload_n 0, 1, 0, 0, 0) := by decide +kernel
theorem qic_7 : xe_look (xc 202) 7 = some (.bipush 110, 2, 0, 0, 0) := by decide +kernel
theorem qic_9 : xe_look (xc 202) 9 = some (.if_icmp .eq 39, 3, 0, 0, 0) := by decide +kernel
theorem qic_12 : xe_look (xc 202) 12 = some (.iload_n 0, 1, 0, 0, 0) := by decide +kernel
theorem qic_13 : xe_look (xc 202) 13 = some (.bipush 115, 2, 0, 0, 0) := by decide +kernel
theorem qic_15 : xe_look (xc 202) 15 = some (.if_icmp .eq 33, 3, 0, 0, 0) := by decide +kernel
theorem qic_18 : xe_look (xc 202) 18 = some (.iload_n 0, 1, 0, 0, 0) := by decide +kernel
theorem qic_19 : xe_look (xc 202) 19 = some (.bipush 116, 2, 0, 0, 0) := by decide +kernel
theorem qic_21 : xe_look (xc 202) 21 = some (.if_icmp .eq 27, 3, 0, 0, 0) := by decide +kernel
theorem qic_24 : xe_look (xc 202) 24 = some (.iload_n 0, 1, 0, 0, 0) := by decide +kernel
theorem qic_25 : xe_look (xc 202) 25 = some (.bipush 106, 2, 0, 0, 0) := by decide +kernel
theorem qic_27 : xe_look (xc 202) 27 = some (.if_icmp .eq 21, 3, 0, 0, 0) := by decide +kernel
theorem qic_30 : xe_look (xc 202) 30 = some (.iload_n 0, 1, 0, 0, 0) := by decide +kernel
theorem qic_31 : xe_look (xc 202) 31 = some (.bipush 120, 2, 0, 0, 0) := by decide +kernel
theorem qic_33 : xe_look (xc 202) 33 = some (.if_icmp .eq 15, 3, 0, 0, 0) := by decide +kernel
theorem qic_36 : xe_look (xc 202) 36 = some (.iload_n 0, 1, 0, 0, 0) := by decide +kernel
theorem qic_37 : xe_look (xc 202) 37 = some (.bipush 112, 2, 0, 0, 0) := by decide +kernel
theorem qic_39 : xe_look (xc 202) 39 = some (.if_icmp .eq 9, 3, 0, 0, 0) := by decide +kernel
theorem qic_42 : xe_look (xc 202) 42 = some (.iload_n 0, 1, 0, 0, 0) := by decide +kernel
theorem qic_43 : xe_look (xc 202) 43 = some (.bipush 98, 2, 0, 0, 0) := by decide +kernel
theorem qic_45 : xe_look (xc 202) 45 = some (.if_icmp .ne 7, 3, 0, 0, 0) := by decide +kernel
theorem qic_48 : xe_look (xc 202) 48 = some (.iconst 1, 1, 0, 0, 0) := by decide +kernel
theorem qic_49 : xe_look (xc 202) 49 = some (.goto 4, 3, 0, 0, 0) := by decide +kernel
theorem qic_52 : xe_look (xc 202) 52 = some (.iconst 0, 1, 0, 0, 0) := by decide +kernel
theorem qic_53 : xe_look (xc 202) 53 = some (.ireturn, 1, 0, 0, 0) := by decide +kernel
theorem qnt_0 : xe_look (xc 223) 0 = some (.aload_n 0, 1, 0, 0, 0) := by decide +kernel
theorem qnt_1 : xe_look (xc 223) 1 = some (.getfield 68, 3, 12, 36, 1194) := by decide +kernel
theorem qnt_4 : xe_look (xc 223) 4 = some (.aload_n 0, 1, 0, 0, 0) := by decide +kernel
theorem qnt_5 : xe_look (xc 223) 5 = some (.getfield 296, 3, 12, 32, 1222) := by decide +kernel
theorem qnt_8 : xe_look (xc 223) 8 = some (.ldc_w 299, 3, 0, 2148532224, 1151) := by decide +kernel
theorem qnt_11 : xe_look (xc 223) 11 = some (.iload_n 1, 1, 0, 0, 0) := by decide +kernel
theorem qnt_12 : xe_look (xc 223) 12 = some (.imul, 1, 0, 0, 0) := by decide +kernel
theorem qnt_13 : xe_look (xc 223) 13 = some (.iload_n 2, 1, 0, 0, 0) := by decide +kernel
theorem qnt_14 : xe_look (xc 223) 14 = some (.iadd, 1, 0, 0, 0) := by decide +kernel
theorem qnt_15 : xe_look (xc 223) 15 = some (.iastore, 1, 0, 0, 0) := by decide +kernel
theorem qnt_16 : xe_look (xc 223) 16 = some (.aload_n 0, 1, 0, 0, 0) := by decide +kernel
theorem qnt_17 : xe_look (xc 223) 17 = some (.aload_n 0, 1, 0, 0, 0) := by decide +kernel
theorem qnt_18 : xe_look (xc 223) 18 = some (.getfield 296, 3, 12, 32, 1222) := by decide +kernel
theorem qnt_21 : xe_look (xc 223) 21 = some (.iconst 1, 1, 0, 0, 0) := by decide +kernel
theorem qnt_22 : xe_look (xc 223) 22 = some (.iadd, 1, 0, 0, 0) := by decide +kernel
theorem qnt_23 : xe_look (xc 223) 23 = some (.putfield 296, 3, 12, 32, 1222) := by decide +kernel
theorem qnt_26 : xe_look (xc 223) 26 = some (.return_, 1, 0, 0, 0) := by decide +kernel
theorem qop_0 : xe_look (xc 229) 0 = some (.aload_n 0, 1, 0, 0, 0) := by decide +kernel
theorem qop_1 : xe_look (xc 229) 1 = some (.getfield 300, 3, 12, 31, 1170) := by decide +kernel
theorem qop_4 : xe_look (xc 229) 4 = some (.bipush 6, 2, 0, 0, 0) := by decide +kernel
theorem qop_6 : xe_look (xc 229) 6 = some (.if_icmp .ne 13, 3, 0, 0, 0) := by decide +kernel
theorem qop_9 : xe_look (xc 229) 9 = some (.aload_n 0, 1, 0, 0, 0) := by decide +kernel
theorem qop_10 : xe_look (xc 229) 10 = some (.iconst 5, 1, 0, 0, 0) := by decide +kernel
theorem qop_11 : xe_look (xc 229) 11 = some (.aload_n 0, 1, 0, 0, 0) := by decide +kernel
theorem qop_12 : xe_look (xc 229) 12 = some (.getfield 242, 3, 12, 18, 1135) := by decide +kernel
theorem qop_15 : xe_look (xc 229) 15 = some (.invokevirtual 256, 3, 0, 274, 1138) := by decide +kernel
theorem qop_18 : xe_look (xc 229) 18 = some (.ireturn, 1, 0, 0, 0) := by decide +kernel
theorem qop_19 : xe_look (xc 229) 19 = some (.aload_n 0, 1, 0, 0, 0) := by decide +kernel
theorem qop_20 : xe_look (xc 229) 20 = some (.aload_n 0, 1, 0, 0, 0) := by decide +kernel
theorem qop_21 : xe_look (xc 229) 21 = some (.getfield 300, 3, 12, 31, 1170) := by decide +kernel
theorem qop_24 : xe_look (xc 229) 24 = some (.iconst 1, 1, 0, 0, 0) := by decide +kernel
theorem qop_25 : xe_look (xc 229) 25 = some (.iadd, 1, 0, 0, 0) := by decide +kernel
theorem qop_26 : xe_look (xc 229) 26 = some (.putfield 300, 3, 12, 31, 1170) := by decide +kernel
theorem qop_29 : xe_look (xc 229) 29 = some (.aload_n 0, 1, 0, 0, 0) := by decide +kernel
theorem qop_30 : xe_look (xc 229) 30 = some (.getfield 71, 3, 12, 37, 1189) := by decide +kernel
theorem qop_33 : xe_look (xc 229) 33 = some (.aload_n 0, 1, 0, 0, 0) := by decide +kernel
theorem qop_34 : xe_look (xc 229) 34 = some (.getfield 303, 3, 12, 33, 1146) := by decide +kernel
theorem qop_37 : xe_look (xc 229) 37 = some (.ldc_w 299, 3, 0, 2148532224, 1151) := by decide +kernel
theorem qop_40 : xe_look (xc 229) 40 = some (.iload_n 1, 1, 0, 0, 0) := by decide +kernel
theorem qop_41 : xe_look (xc 229) 41 = some (.imul, 1, 0, 0, 0) := by decide +kernel
theorem qop_42 : xe_look (xc 229) 42 = some (.iastore, 1, 0, 0, 0) := by decide +kernel
theorem qop_43 : xe_look (xc 229) 43 = some (.aload_n 0, 1, 0, 0, 0) := by decide +kernel
theorem qop_44 : xe_look (xc 229) 44 = some (.aload_n 0, 1, 0, 0, 0) := by decide +kernel
theorem qop_45 : xe_look (xc 229) 45 = some (.getfield 303, 3, 12, 33, 1146) := by decide +kernel
theorem qop_48 : xe_look (xc 229) 48 = some (.iconst 1, 1, 0, 0, 0) := by decide +kernel
theorem qop_49 : xe_look (xc 229) 49 = some (.iadd, 1, 0, 0, 0) := by decide +kernel
theorem qop_50 : xe_look (xc 229) 50 = some (.putfield 303, 3, 12, 33, 1146) := by decide +kernel
theorem qop_53 : xe_look (xc 229) 53 = some (.aload_n 0, 1, 0, 0, 0) := by decide +kernel
theorem qop_54 : xe_look (xc 229) 54 = some (.aload_n 0, 1, 0, 0, 0) := by decide +kernel
theorem qop_55 : xe_look (xc 229) 55 = some (.getfield 242, 3, 12, 18, 1135) := by decide +kernel
theorem qop_58 : xe_look (xc 229) 58 = some (.iconst 1, 1, 0, 0, 0) := by decide +kernel
theorem qop_59 : xe_look (xc 229) 59 = some (.iadd, 1, 0, 0, 0) := by decide +kernel
theorem qop_60 : xe_look (xc 229) 60 = some (.putfield 242, 3, 12, 18, 1135) := by decide +kernel
theorem qop_63 : xe_look (xc 229) 63 = some (.iconst 1, 1, 0, 0, 0) := by decide +kernel
theorem qop_64 : xe_look (xc 229) 64 = some (.ireturn, 1, 0, 0, 0) := by decide +kernel
theorem qss_0 : xe_look (xc 256) 0 = some (.iload_n 0, 1, 0, 0, 0) := by decide +kernel
theorem qss_1 : xe_look (xc 256) 1 = some (.bipush 43, 2, 0, 0, 0) := by decide +kernel
theorem qss_3 : xe_look (xc 256) 3 = some (.if_icmp .ne 7, 3, 0, 0, 0) := by decide +kernel
theorem qss_6 : xe_look (xc 256) 6 = some (.iconst 2, 1, 0, 0, 0) := by decide +kernel
theorem qss_7 : xe_look (xc 256) 7 = some (.goto 45, 3, 0, 0, 0) := by decide +kernel
theorem qss_10 : xe_look (xc 256) 10 = some (.iload_n 0, 1, 0, 0, 0) := by decide +kernel
theorem qss_11 : xe_look (xc 256) 11 = some (.bipush 45, 2, 0, 0, 0) := by decide +kernel
theorem qss_13 : xe_look (xc 256) 13 = some (.if_icmp .ne 7, 3, 0, 0, 0) := by decide +kernel
theorem qss_16 : xe_look (xc 256) 16 = some (.iconst 3, 1, 0, 0, 0) := by decide +kernel
theorem qss_17 : xe_look (xc 256) 17 = some (.goto 35, 3, 0, 0, 0) := by decide +kernel
theorem qss_20 : xe_look (xc 256) 20 = some (.iload_n 0, 1, 0, 0, 0) := by decide +kernel
theorem qss_21 : xe_look (xc 256) 21 = some (.bipush 42, 2, 0, 0, 0) := by decide +kernel
theorem qss_23 : xe_look (xc 256) 23 = some (.if_icmp .ne 7, 3, 0, 0, 0) := by decide +kernel
theorem qss_26 : xe_look (xc 256) 26 = some (.iconst 4, 1, 0, 0, 0) := by decide +kernel
theorem qss_27 : xe_look (xc 256) 27 = some (.goto 25, 3, 0, 0, 0) := by decide +kernel
theorem qss_30 : xe_look (xc 256) 30 = some (.iload_n 0, 1, 0, 0, 0) := by decide +kernel
theorem qss_31 : xe_look (xc 256) 31 = some (.bipush 47, 2, 0, 0, 0) := by decide +kernel
theorem qss_33 : xe_look (xc 256) 33 = some (.if_icmp .ne 7, 3, 0, 0, 0) := by decide +kernel
theorem qss_36 : xe_look (xc 256) 36 = some (.iconst 5, 1, 0, 0, 0) := by decide +kernel
theorem qss_37 : xe_look (xc 256) 37 = some (.goto 15, 3, 0, 0, 0) := by decide +kernel
theorem qss_40 : xe_look (xc 256) 40 = some (.iload_n 0, 1, 0, 0, 0) := by decide +kernel
theorem qss_41 : xe_look (xc 256) 41 = some (.bipush 37, 2, 0, 0, 0) := by decide +kernel
theorem qss_43 : xe_look (xc 256) 43 = some (.if_icmp .ne 8, 3, 0, 0, 0) := by decide +kernel
theorem qss_46 : xe_look (xc 256) 46 = some (.bipush 6, 2, 0, 0, 0) := by decide +kernel
theorem qss_48 : xe_look (xc 256) 48 = some (.goto 4, 3, 0, 0, 0) := by decide +kernel
theorem qss_51 : xe_look (xc 256) 51 = some (.iconst (-1), 1, 0, 0, 0) := by decide +kernel
theorem qss_52 : xe_look (xc 256) 52 = some (.ireturn, 1, 0, 0, 0) := by decide +kernel
theorem qwt_0 : xe_look (xc 272) 0 = some (.aload_n 0, 1, 0, 0, 0) := by decide +kernel
theorem qwt_1 : xe_look (xc 272) 1 = some (.getfield 303, 3, 12, 33, 1146) := by decide +kernel
theorem qwt_4 : xe_look (xc 272) 4 = some (.ifCond .ne 7, 3, 0, 0, 0) := by decide +kernel
theorem qwt_7 : xe_look (xc 272) 7 = some (.iconst (-1), 1, 0, 0, 0) := by decide +kernel
theorem qwt_8 : xe_look (xc 272) 8 = some (.goto 18, 3, 0, 0, 0) := by decide +kernel
theorem qwt_11 : xe_look (xc 272) 11 = some (.aload_n 0, 1, 0, 0, 0) := by decide +kernel
theorem qwt_12 : xe_look (xc 272) 12 = some (.getfield 71, 3, 12, 37, 1189) := by decide +kernel
theorem qwt_15 : xe_look (xc 272) 15 = some (.aload_n 0, 1, 0, 0, 0) := by decide +kernel
theorem qwt_16 : xe_look (xc 272) 16 = some (.getfield 303, 3, 12, 33, 1146) := by decide +kernel
theorem qwt_19 : xe_look (xc 272) 19 = some (.iconst 1, 1, 0, 0, 0) := by decide +kernel
theorem qwt_20 : xe_look (xc 272) 20 = some (.isub, 1, 0, 0, 0) := by decide +kernel
theorem qwt_21 : xe_look (xc 272) 21 = some (.iaload, 1, 0, 0, 0) := by decide +kernel
theorem qwt_22 : xe_look (xc 272) 22 = some (.ldc_w 299, 3, 0, 2148532224, 1151) := by decide +kernel
theorem qwt_25 : xe_look (xc 272) 25 = some (.idiv, 1, 0, 0, 0) := by decide +kernel
theorem qwt_26 : xe_look (xc 272) 26 = some (.ireturn, 1, 0, 0, 0) := by decide +kernel
theorem ga_216 : eG (cn 216) = ((-2147483648), 2147483647, []) := by decide +kernel
theorem ga_217 : eG (cn 217) = ((-2147483648), 2147483647, []) := by decide +kernel
theorem gf_31 : eG (cn 196 + 31) = ((-2147483648), 2147483647, []) := by decide +kernel
theorem gf_32 : eG (cn 196 + 32) = ((-2147483648), 2147483647, []) := by decide +kernel
theorem gf_33 : eG (cn 196 + 33) = ((-2147483648), 2147483647, []) := by decide +kernel
def Wu : Nat := 2 ^ (cn 196 + 18) + 2 ^ (cn 196 + 20) + 2 ^ (cn 196 + 21) + 2 ^ (cn 196 + 31) + 2 ^ (cn 196 + 32) + 2 ^ (cn 196 + 33) + 2 ^ cn 216 + 2 ^ cn 217
theorem Wu_f : Wu.testBit (cn 196 + 18) = true ∧ Wu.testBit (cn 196 + 20) = true ∧ Wu.testBit (cn 196 + 21) = true ∧ Wu.testBit (cn 196 + 31) = true ∧ Wu.testBit (cn 196 + 32) = true ∧ Wu.testBit (cn 196 + 33) = true ∧ Wu.testBit (cn 216) = true ∧ Wu.testBit (cn 217) = true ∧ Wu.testBit (cn 196 + 19) = false := by decide +kernel
theorem nt_run {d : Nat} {h0 g : pH} {a b : Int} (hJ : J_ Wu h0 g) (hc : 0 ≤ fF g 32 ∧ fF g 32 < 260) (ha : 0 ≤ a ∧ a ≤ 14) (hb : 0 ≤ b ∧ b ≤ 1048575) {P : Option pv × pH → Prop} (hP : ∀ g1 : pH, J_ Wu h0 g1 → fF g1 32 = fF g 32 + 1 → (∀ u, u ≠ 32 → fF g1 u = fF g u) → fA g1 216 (fF g 32).toNat = 1048576 * a + b → (∀ u, u ≠ (fF g 32).toNat → fA g1 216 u = fA g 216 u) → (∀ k, k ≠ 216 → fA g1 k = fA g k) → P (none, g1)) {lv : List (Nat × pv)} (l0 : px_lg lv 0 = some (pvR 196)) (l1 : px_lg lv 1 = some (oI a)) (l2 : px_lg lv 2 = some (oI b)) : t_X d 223 0 lv [] g P := by
  obtain ⟨w_18, w_20, w_21, w_31, w_32, w_33, w_a216, w_a217, z_19⟩ := Wu_f
  refine t_0 qnt_0 rfl (ld_a l0) ?_
  refine t_0 qnt_1 rfl (ar_36 hJ.1) ?_
  refine t_0 qnt_4 rfl (ld_a l0) ?_
  have r1 := fF_b g 32
  refine t_0 qnt_5 rfl (pq_gf (y := 32) rfl) ?_
  refine t_0 qnt_8 rfl (pq_cw (n := 1048576) (by decide +kernel)) ?_
  refine t_0 qnt_11 rfl (ld_i l1) ?_
  refine t_0 qnt_12 rfl pq_mul ?_
  refine t_0 qnt_13 rfl (ld_i l2) ?_
  refine t_0 qnt_14 rfl pq_add ?_
  refine tw_a qnt_15 hJ el_216 rfl w_a216 ga_216 (by decide) ⟨by omega, by omega⟩ ⟨by omega, by omega⟩ (fun g2 hJ2 a2 v2 b2 f2 => ?_)
  replace f2 := fF_1 f2
  have q2_32 := congrFun f2 32
  show t_X d 223 16 lv [] g2 P
  refine t_0 qnt_16 rfl (ld_a l0) ?_
  refine t_0 qnt_17 rfl (ld_a l0) ?_
  have r3 := fF_b g2 32
  refine t_0 qnt_18 rfl (pq_gf (y := 32) rfl) ?_
  refine t_0 qnt_21 rfl rfl ?_
  refine t_0 qnt_22 rfl pq_add ?_
  refine tw_f qnt_23 rfl hJ2 w_32 gf_32 (by decide) ⟨by omega, by omega⟩ (fun g4 hJ4 v4 f4 a4 => ?_)
  replace a4 := fA_2 a4
  show t_X d 223 26 lv [] g4 P
  refine t_5 qnt_26 rfl rfl ?_
  exact hP _ hJ4 (by omega) (fun u hu => by rw [f4 u hu, f2]) (by rw [a4, v2]) (fun u hu => by rw [a4, b2 u hu]) (fun k hk => by rw [a4, a2 k hk])
theorem wt_run {d : Nat} {h0 g : pH} (hJ : J_ Wu h0 g) (hw : 0 ≤ fF g 33 ∧ fF g 33 ≤ 260) (hv : 1 ≤ fF g 33 → 0 ≤ fA g 217 (fF g 33 - 1).toNat) {P : Option pv × pH → Prop} (hP : ∀ z : Int, (fF g 33 = 0 ∧ z = -1) ∨ (1 ≤ fF g 33 ∧ z = fA g 217 (fF g 33 - 1).toNat / 1048576) → P (some (oI z), g)) {lv : List (Nat × pv)} (l0 : px_lg lv 0 = some (pvR 196)) : t_X d 272 0 lv [] g P := by
  refine t_0 qwt_0 rfl (ld_a l0) ?_
  have r1 := fF_b g 33
  refine t_0 qwt_1 rfl (pq_gf (y := 33) rfl) ?_
  refine tz_ne qwt_4 (by decide) ⟨by omega, by omega⟩ (fun c2 => ?_) (fun c2 => ?_)
  · show t_X d 272 11 lv [] g P
    refine t_0 qwt_11 rfl (ld_a l0) ?_
    refine t_0 qwt_12 rfl (ar_37 hJ.1) ?_
    refine t_0 qwt_15 rfl (ld_a l0) ?_
    have r3 := fF_b g 33
    refine t_0 qwt_16 rfl (pq_gf (y := 33) rfl) ?_
    refine t_0 qwt_19 rfl rfl ?_
    refine t_0 qwt_20 rfl pq_sub ?_
    refine t_0 qwt_21 rfl (pq_ia el_217 rfl ⟨by omega, by omega⟩) ?_
    have r4 := fA_b g 217 ((fF g 33) - 1).toNat
    have hv0 := hv (by omega)
    refine t_0 qwt_22 rfl (pq_cw (n := 1048576) (by decide +kernel)) ?_
    refine t_0 qwt_25 rfl (pq_div ⟨by omega, by omega⟩ ⟨by omega, by omega⟩) ?_
    refine t_5 qwt_26 rfl rfl ?_
    exact hP _ (Or.inr ⟨by omega, rfl⟩)
  · show t_X d 272 7 lv [] g P
    refine t_0 qwt_7 rfl rfl ?_
    refine t_1 qwt_8 rfl (pb_goto (pc := 8) (by decide)) ?_
    show t_X d 272 26 lv [oI ((-1))] g P
    refine t_5 qwt_26 rfl rfl ?_
    exact hP _ (Or.inl ⟨by omega, rfl⟩)
theorem op_run {d : Nat} (hd : 1 ≤ d) {h0 g : pH} {a : Int} (hJ : J_ Wu h0 g) (hw : 0 ≤ fF g 33 ∧ fF g 33 < 260) (hp : 0 ≤ fF g 18 ∧ fF g 18 ≤ 240) (ha : 0 ≤ a ∧ a ≤ 14) {P : Option pv × pH → Prop} (h1 : ∀ g1 : pH, fF g1 18 = fF g 18 + 1 → fF g1 19 = fF g 19 → fF g1 32 = fF g 32 → fF g1 33 = fF g 33 + 1 → fA g1 217 (fF g 33).toNat = 1048576 * a → (∀ u, u ≠ (fF g 33).toNat → fA g1 217 u = fA g 217 u) → fA g1 216 = fA g 216 → J_ Wu h0 g1 → P (some (oI 1), g1)) (h2 : ∀ g1 : pH, J_ Wu h0 g1 → P (some (oI 0), g1)) {lv : List (Nat × pv)} (l0 : px_lg lv 0 = some (pvR 196)) (l1 : px_lg lv 1 = some (oI a)) : t_X d 229 0 lv [] g P := by
  obtain ⟨w_18, w_20, w_21, w_31, w_32, w_33, w_a216, w_a217, z_19⟩ := Wu_f
  refine t_0 qop_0 rfl (ld_a l0) ?_
  have r1 := fF_b g 31
  refine t_0 qop_1 rfl (pq_gf (y := 31) rfl) ?_
  refine t_0 qop_4 rfl (pq_b (by decide)) ?_
  refine tb_ne qop_6 (by decide) ⟨by omega, by omega⟩ ⟨by omega, by omega⟩ (fun c2 => ?_) (fun c2 => ?_)
  · show t_X d 229 19 lv [] g P
    refine t_0 qop_19 rfl (ld_a l0) ?_
    refine t_0 qop_20 rfl (ld_a l0) ?_
    have r3 := fF_b g 31
    refine t_0 qop_21 rfl (pq_gf (y := 31) rfl) ?_
    refine t_0 qop_24 rfl rfl ?_
    refine t_0 qop_25 rfl pq_add ?_
    refine tw_fx qop_26 rfl hJ w_31 gf_31 (fun g4 hJ4 f4 a4 => ?_)
    replace a4 := fA_2 a4
    have q4_18 := f4 18 (by decide)
    have q4_19 := f4 19 (by decide)
    have q4_32 := f4 32 (by decide)
    have q4_33 := f4 33 (by decide)
    show t_X d 229 29 lv [] g4 P
    refine t_0 qop_29 rfl (ld_a l0) ?_
    refine t_0 qop_30 rfl (ar_37 hJ4.1) ?_
    refine t_0 qop_33 rfl (ld_a l0) ?_
    have r5 := fF_b g4 33
    refine t_0 qop_34 rfl (pq_gf (y := 33) rfl) ?_
    refine t_0 qop_37 rfl (pq_cw (n := 1048576) (by decide +kernel)) ?_
    refine t_0 qop_40 rfl (ld_i l1) ?_
    refine t_0 qop_41 rfl pq_mul ?_
    refine tw_a qop_42 hJ4 el_217 rfl w_a217 ga_217 (by decide) ⟨by omega, by omega⟩ ⟨by omega, by omega⟩ (fun g6 hJ6 a6 v6 b6 f6 => ?_)
    replace f6 := fF_1 f6
    have q6_18 := congrFun f6 18
    have q6_19 := congrFun f6 19
    have q6_32 := congrFun f6 32
    have q6_33 := congrFun f6 33
    show t_X d 229 43 lv [] g6 P
    refine t_0 qop_43 rfl (ld_a l0) ?_
    refine t_0 qop_44 rfl (ld_a l0) ?_
    have r7 := fF_b g6 33
    refine t_0 qop_45 rfl (pq_gf (y := 33) rfl) ?_
    refine t_0 qop_48 rfl rfl ?_
    refine t_0 qop_49 rfl pq_add ?_
    refine tw_f qop_50 rfl hJ6 w_33 gf_33 (by decide) ⟨by omega, by omega⟩ (fun g8 hJ8 v8 f8 a8 => ?_)
    replace a8 := fA_2 a8
    have q8_18 := f8 18 (by decide)
    have q8_19 := f8 19 (by decide)
    have q8_32 := f8 32 (by decide)
    show t_X d 229 53 lv [] g8 P
    refine t_0 qop_53 rfl (ld_a l0) ?_
    refine t_0 qop_54 rfl (ld_a l0) ?_
    have r9 := fF_b g8 18
    refine t_0 qop_55 rfl (pq_gf (y := 18) rfl) ?_
    refine t_0 qop_58 rfl rfl ?_
    refine t_0 qop_59 rfl pq_add ?_
    refine tw_f qop_60 rfl hJ8 w_18 gf_18 (by decide) ⟨by omega, by omega⟩ (fun g10 hJ10 v10 f10 a10 => ?_)
    replace a10 := fA_2 a10
    have q10_19 := f10 19 (by decide)
    have q10_32 := f10 32 (by decide)
    have q10_33 := f10 33 (by decide)
    show t_X d 229 63 lv [] g10 P
    refine t_0 qop_63 rfl rfl ?_
    refine t_5 qop_64 rfl rfl ?_
    refine h1 _ (by omega) (by omega) (by omega) (by omega) ?_ (fun u hu => ?_) (by rw [a10, a8, a6 216 (by decide), a4]) hJ10
    · rw [a10, a8, ← q4_33]
      exact v6
    · rw [a10, a8, b6 u (by rw [q4_33]; exact hu), a4]
  · show t_X d 229 9 lv [] g P
    refine t_0 qop_9 rfl (ld_a l0) ?_
    refine t_0 qop_10 rfl rfl ?_
    refine t_0 qop_11 rfl (ld_a l0) ?_
    have r11 := fF_b g 18
    refine t_0 qop_12 rfl (pq_gf (y := 18) rfl) ?_
    refine t_3 qop_15 rfl (ar := ([pvR 196, oI (5), oI (fF g 18)], [])) (pcal_v2 rfl rfl el_196) ⟨by omega, Nat.le_of_ble_eq_true rfl, Nat.le_of_ble_eq_true rfl, rfl⟩ ?_
    refine wr_run hJ w_20 (fun g12 hJ12 f12 a12 => ?_) rfl rfl rfl
    have q12_18 := f12 18 (by decide)
    have q12_19 := f12 19 (by decide)
    have q12_32 := f12 32 (by decide)
    have q12_33 := f12 33 (by decide)
    show t_X d 229 18 lv [oI (0)] g12 P
    refine t_5 qop_18 rfl rfl ?_
    exact h2 _ hJ12
theorem ss_run {d : Nat} {g : pH} {c : Int} (hc : -1 ≤ c ∧ c ≤ 255) {P : Option pv × pH → Prop} (hP : ∀ z : Int, (z = -1 ∨ (2 ≤ z ∧ z ≤ 6 ∧ 0 ≤ c)) → P (some (oI z), g)) {lv : List (Nat × pv)} (l0 : px_lg lv 0 = some (oI c)) : t_X d 256 0 lv [] g P := by
  refine t_0 qss_0 rfl (ld_i l0) ?_
  refine t_0 qss_1 rfl (pq_b (by decide)) ?_
  refine tb_ne qss_3 (by decide) ⟨by omega, by omega⟩ ⟨by omega, by omega⟩ (fun c1 => ?_) (fun c1 => ?_)
  · show t_X d 256 10 lv [] g P
    refine t_0 qss_10 rfl (ld_i l0) ?_
    refine t_0 qss_11 rfl (pq_b (by decide)) ?_
    refine tb_ne qss_13 (by decide) ⟨by omega, by omega⟩ ⟨by omega, by omega⟩ (fun c2 => ?_) (fun c2 => ?_)
    · show t_X d 256 20 lv [] g P
      refine t_0 qss_20 rfl (ld_i l0) ?_
      refine t_0 qss_21 rfl (pq_b (by decide)) ?_
      refine tb_ne qss_23 (by decide) ⟨by omega, by omega⟩ ⟨by omega, by omega⟩ (fun c3 => ?_) (fun c3 => ?_)
      · show t_X d 256 30 lv [] g P
        refine t_0 qss_30 rfl (ld_i l0) ?_
        refine t_0 qss_31 rfl (pq_b (by decide)) ?_
        refine tb_ne qss_33 (by decide) ⟨by omega, by omega⟩ ⟨by omega, by omega⟩ (fun c4 => ?_) (fun c4 => ?_)
        · show t_X d 256 40 lv [] g P
          refine t_0 qss_40 rfl (ld_i l0) ?_
          refine t_0 qss_41 rfl (pq_b (by decide)) ?_
          refine tb_ne qss_43 (by decide) ⟨by omega, by omega⟩ ⟨by omega, by omega⟩ (fun c5 => ?_) (fun c5 => ?_)
          · show t_X d 256 51 lv [] g P
            refine t_0 qss_51 rfl rfl ?_
            refine t_5 qss_52 rfl rfl ?_
            exact hP _ (by omega)
          · show t_X d 256 46 lv [] g P
            refine t_0 qss_46 rfl (pq_b (by decide)) ?_
            refine t_1 qss_48 rfl (pb_goto (pc := 48) (by decide)) ?_
            show t_X d 256 52 lv [oI (6)] g P
            refine t_5 qss_52 rfl rfl ?_
            exact hP _ (by omega)
        · show t_X d 256 36 lv [] g P
          refine t_0 qss_36 rfl rfl ?_
          refine t_1 qss_37 rfl (pb_goto (pc := 37) (by decide)) ?_
          show t_X d 256 52 lv [oI (5)] g P
          refine t_5 qss_52 rfl rfl ?_
          exact hP _ (by omega)
      · show t_X d 256 26 lv [] g P
        refine t_0 qss_26 rfl rfl ?_
        refine t_1 qss_27 rfl (pb_goto (pc := 27) (by decide)) ?_
        show t_X d 256 52 lv [oI (4)] g P
        refine t_5 qss_52 rfl rfl ?_
        exact hP _ (by omega)
    · show t_X d 256 16 lv [] g P
      refine t_0 qss_16 rfl rfl ?_
      refine t_1 qss_17 rfl (pb_goto (pc := 17) (by decide)) ?_
      show t_X d 256 52 lv [oI (3)] g P
      refine t_5 qss_52 rfl rfl ?_
      exact hP _ (by omega)
  · show t_X d 256 6 lv [] g P
    refine t_0 qss_6 rfl rfl ?_
    refine t_1 qss_7 rfl (pb_goto (pc := 7) (by decide)) ?_
    show t_X d 256 52 lv [oI (2)] g P
    refine t_5 qss_52 rfl rfl ?_
    exact hP _ (by omega)
theorem ic_run {d : Nat} {g : pH} {c : Int} (hc : -1 ≤ c ∧ c ≤ 255) {P : Option pv × pH → Prop} (h1 : 0 ≤ c → P (some (oI 1), g)) (h0 : P (some (oI 0), g)) {lv : List (Nat × pv)} (l0 : px_lg lv 0 = some (oI c)) : t_X d 202 0 lv [] g P := by
  refine t_0 qic_0 rfl (ld_i l0) ?_
  refine t_0 qic_1 rfl (pq_b (by decide)) ?_
  refine tb_eq qic_3 (by decide) ⟨by omega, by omega⟩ ⟨by omega, by omega⟩ (fun c1 => ?_) (fun c1 => ?_)
  · show t_X d 202 48 lv [] g P
    refine t_0 qic_48 rfl rfl ?_
    refine t_1 qic_49 rfl (pb_goto (pc := 49) (by decide)) ?_
    show t_X d 202 53 lv [oI (1)] g P
    refine t_5 qic_53 rfl rfl ?_
    exact h1 (by omega)
  · show t_X d 202 6 lv [] g P
    refine t_0 qic_6 rfl (ld_i l0) ?_
    refine t_0 qic_7 rfl (pq_b (by decide)) ?_
    refine tb_eq qic_9 (by decide) ⟨by omega, by omega⟩ ⟨by omega, by omega⟩ (fun c2 => ?_) (fun c2 => ?_)
    · show t_X d 202 48 lv [] g P
      refine t_0 qic_48 rfl rfl ?_
      refine t_1 qic_49 rfl (pb_goto (pc := 49) (by decide)) ?_
      show t_X d 202 53 lv [oI (1)] g P
      refine t_5 qic_53 rfl rfl ?_
      exact h1 (by omega)
    · show t_X d 202 12 lv [] g P
      refine t_0 qic_12 rfl (ld_i l0) ?_
      refine t_0 qic_13 rfl (pq_b (by decide)) ?_
      refine tb_eq qic_15 (by decide) ⟨by omega, by omega⟩ ⟨by omega, by omega⟩ (fun c3 => ?_) (fun c3 => ?_)
      · show t_X d 202 48 lv [] g P
        refine t_0 qic_48 rfl rfl ?_
        refine t_1 qic_49 rfl (pb_goto (pc := 49) (by decide)) ?_
        show t_X d 202 53 lv [oI (1)] g P
        refine t_5 qic_53 rfl rfl ?_
        exact h1 (by omega)
      · show t_X d 202 18 lv [] g P
        refine t_0 qic_18 rfl (ld_i l0) ?_
        refine t_0 qic_19 rfl (pq_b (by decide)) ?_
        refine tb_eq qic_21 (by decide) ⟨by omega, by omega⟩ ⟨by omega, by omega⟩ (fun c4 => ?_) (fun c4 => ?_)
        · show t_X d 202 48 lv [] g P
          refine t_0 qic_48 rfl rfl ?_
          refine t_1 qic_49 rfl (pb_goto (pc := 49) (by decide)) ?_
          show t_X d 202 53 lv [oI (1)] g P
          refine t_5 qic_53 rfl rfl ?_
          exact h1 (by omega)
        · show t_X d 202 24 lv [] g P
          refine t_0 qic_24 rfl (ld_i l0) ?_
          refine t_0 qic_25 rfl (pq_b (by decide)) ?_
          refine tb_eq qic_27 (by decide) ⟨by omega, by omega⟩ ⟨by omega, by omega⟩ (fun c5 => ?_) (fun c5 => ?_)
          · show t_X d 202 48 lv [] g P
            refine t_0 qic_48 rfl rfl ?_
            refine t_1 qic_49 rfl (pb_goto (pc := 49) (by decide)) ?_
            show t_X d 202 53 lv [oI (1)] g P
            refine t_5 qic_53 rfl rfl ?_
            exact h1 (by omega)
          · show t_X d 202 30 lv [] g P
            refine t_0 qic_30 rfl (ld_i l0) ?_
            refine t_0 qic_31 rfl (pq_b (by decide)) ?_
            refine tb_eq qic_33 (by decide) ⟨by omega, by omega⟩ ⟨by omega, by omega⟩ (fun c6 => ?_) (fun c6 => ?_)
            · show t_X d 202 48 lv [] g P
              refine t_0 qic_48 rfl rfl ?_
              refine t_1 qic_49 rfl (pb_goto (pc := 49) (by decide)) ?_
              show t_X d 202 53 lv [oI (1)] g P
              refine t_5 qic_53 rfl rfl ?_
              exact h1 (by omega)
            · show t_X d 202 36 lv [] g P
              refine t_0 qic_36 rfl (ld_i l0) ?_
              refine t_0 qic_37 rfl (pq_b (by decide)) ?_
              refine tb_eq qic_39 (by decide) ⟨by omega, by omega⟩ ⟨by omega, by omega⟩ (fun c7 => ?_) (fun c7 => ?_)
              · show t_X d 202 48 lv [] g P
                refine t_0 qic_48 rfl rfl ?_
                refine t_1 qic_49 rfl (pb_goto (pc := 49) (by decide)) ?_
                show t_X d 202 53 lv [oI (1)] g P
                refine t_5 qic_53 rfl rfl ?_
                exact h1 (by omega)
              · show t_X d 202 42 lv [] g P
                refine t_0 qic_42 rfl (ld_i l0) ?_
                refine t_0 qic_43 rfl (pq_b (by decide)) ?_
                refine tb_ne qic_45 (by decide) ⟨by omega, by omega⟩ ⟨by omega, by omega⟩ (fun c8 => ?_) (fun c8 => ?_)
                · show t_X d 202 52 lv [] g P
                  refine t_0 qic_52 rfl rfl ?_
                  refine t_5 qic_53 rfl rfl ?_
                  exact h0
                · show t_X d 202 48 lv [] g P
                  refine t_0 qic_48 rfl rfl ?_
                  refine t_1 qic_49 rfl (pb_goto (pc := 49) (by decide)) ?_
                  show t_X d 202 53 lv [oI (1)] g P
                  refine t_5 qic_53 rfl rfl ?_
                  exact h1 (by omega)
theorem fo_run {d : Nat} {g : pH} {c : Int} (hc : -1 ≤ c ∧ c ≤ 255) {P : Option pv × pH → Prop} (hP : ∀ z : Int, (z = -1 ∨ (0 ≤ z ∧ z ≤ 10 ∧ 0 ≤ c)) → P (some (oI z), g)) {lv : List (Nat × pv)} (l0 : px_lg lv 0 = some (oI c)) : t_X d 188 0 lv [] g P := by
  refine t_0 qfo_0 rfl (ld_i l0) ?_
  have e1 : (Int32.ofInt c).toInt = c := oT (by omega) (by omega)
  by_cases h : c < 97 ∨ 122 < c
  · refine t_1 qfo_1 rfl (t := (147, [])) ?_ ?_
    · show (if (Int32.ofInt c).toInt < 97 ∨ 122 < (Int32.ofInt c).toInt then (if 0 ≤ ((1 : Nat) : Int) + 146 then some (px_tg 1 146, []) else none) else _) = _
      rw [e1, if_pos h]
      rfl
    · show t_X d 188 147 lv [] g P
      refine t_0 qfo_147 rfl rfl ?_
      refine t_5 qfo_148 rfl rfl ?_
      exact hP _ (Or.inl rfl)
  · have hh : c = 97 ∨ c = 98 ∨ c = 99 ∨ c = 100 ∨ c = 101 ∨ c = 102 ∨ c = 103 ∨ c = 104 ∨ c = 105 ∨ c = 106 ∨ c = 107 ∨ c = 108 ∨ c = 109 ∨ c = 110 ∨ c = 111 ∨ c = 112 ∨ c = 113 ∨ c = 114 ∨ c = 115 ∨ c = 116 ∨ c = 117 ∨ c = 118 ∨ c = 119 ∨ c = 120 ∨ c = 121 ∨ c = 122 := by omega
    clear h e1
    rcases hh with rfl | rfl | rfl | rfl | rfl | rfl | rfl | rfl | rfl | rfl | rfl | rfl | rfl | rfl | rfl | rfl | rfl | rfl | rfl | rfl | rfl | rfl | rfl | rfl | rfl | rfl
    · refine t_1 qfo_1 rfl (t := (124, [])) rfl ?_
      show t_X d 188 124 lv [] g P
      refine t_0 qfo_124 rfl rfl ?_
      refine t_5 qfo_125 rfl rfl ?_
      exact hP _ (Or.inr ⟨by decide, by decide, by decide⟩)
    · refine t_1 qfo_1 rfl (t := (147, [])) rfl ?_
      show t_X d 188 147 lv [] g P
      refine t_0 qfo_147 rfl rfl ?_
      refine t_5 qfo_148 rfl rfl ?_
      exact hP _ (Or.inl rfl)
    · refine t_1 qfo_1 rfl (t := (147, [])) rfl ?_
      show t_X d 188 147 lv [] g P
      refine t_0 qfo_147 rfl rfl ?_
      refine t_5 qfo_148 rfl rfl ?_
      exact hP _ (Or.inl rfl)
    · refine t_1 qfo_1 rfl (t := (147, [])) rfl ?_
      show t_X d 188 147 lv [] g P
      refine t_0 qfo_147 rfl rfl ?_
      refine t_5 qfo_148 rfl rfl ?_
      exact hP _ (Or.inl rfl)
    · refine t_1 qfo_1 rfl (t := (141, [])) rfl ?_
      show t_X d 188 141 lv [] g P
      refine t_0 qfo_141 rfl (pq_b (by decide)) ?_
      refine t_5 qfo_143 rfl rfl ?_
      exact hP _ (Or.inr ⟨by decide, by decide, by decide⟩)
    · refine t_1 qfo_1 rfl (t := (147, [])) rfl ?_
      show t_X d 188 147 lv [] g P
      refine t_0 qfo_147 rfl rfl ?_
      refine t_5 qfo_148 rfl rfl ?_
      exact hP _ (Or.inl rfl)
    · refine t_1 qfo_1 rfl (t := (147, [])) rfl ?_
      show t_X d 188 147 lv [] g P
      refine t_0 qfo_147 rfl rfl ?_
      refine t_5 qfo_148 rfl rfl ?_
      exact hP _ (Or.inl rfl)
    · refine t_1 qfo_1 rfl (t := (147, [])) rfl ?_
      show t_X d 188 147 lv [] g P
      refine t_0 qfo_147 rfl rfl ?_
      refine t_5 qfo_148 rfl rfl ?_
      exact hP _ (Or.inl rfl)
    · refine t_1 qfo_1 rfl (t := (120, [])) rfl ?_
      show t_X d 188 120 lv [] g P
      refine t_0 qfo_120 rfl rfl ?_
      refine t_5 qfo_121 rfl rfl ?_
      exact hP _ (Or.inr ⟨by decide, by decide, by decide⟩)
    · refine t_1 qfo_1 rfl (t := (147, [])) rfl ?_
      show t_X d 188 147 lv [] g P
      refine t_0 qfo_147 rfl rfl ?_
      refine t_5 qfo_148 rfl rfl ?_
      exact hP _ (Or.inl rfl)
    · refine t_1 qfo_1 rfl (t := (122, [])) rfl ?_
      show t_X d 188 122 lv [] g P
      refine t_0 qfo_122 rfl rfl ?_
      refine t_5 qfo_123 rfl rfl ?_
      exact hP _ (Or.inr ⟨by decide, by decide, by decide⟩)
    · refine t_1 qfo_1 rfl (t := (138, [])) rfl ?_
      show t_X d 188 138 lv [] g P
      refine t_0 qfo_138 rfl (pq_b (by decide)) ?_
      refine t_5 qfo_140 rfl rfl ?_
      exact hP _ (Or.inr ⟨by decide, by decide, by decide⟩)
    · refine t_1 qfo_1 rfl (t := (130, [])) rfl ?_
      show t_X d 188 130 lv [] g P
      refine t_0 qfo_130 rfl rfl ?_
      refine t_5 qfo_131 rfl rfl ?_
      exact hP _ (Or.inr ⟨by decide, by decide, by decide⟩)
    · refine t_1 qfo_1 rfl (t := (147, [])) rfl ?_
      show t_X d 188 147 lv [] g P
      refine t_0 qfo_147 rfl rfl ?_
      refine t_5 qfo_148 rfl rfl ?_
      exact hP _ (Or.inl rfl)
    · refine t_1 qfo_1 rfl (t := (132, [])) rfl ?_
      show t_X d 188 132 lv [] g P
      refine t_0 qfo_132 rfl (pq_b (by decide)) ?_
      refine t_5 qfo_134 rfl rfl ?_
      exact hP _ (Or.inr ⟨by decide, by decide, by decide⟩)
    · refine t_1 qfo_1 rfl (t := (147, [])) rfl ?_
      show t_X d 188 147 lv [] g P
      refine t_0 qfo_147 rfl rfl ?_
      refine t_5 qfo_148 rfl rfl ?_
      exact hP _ (Or.inl rfl)
    · refine t_1 qfo_1 rfl (t := (128, [])) rfl ?_
      show t_X d 188 128 lv [] g P
      refine t_0 qfo_128 rfl rfl ?_
      refine t_5 qfo_129 rfl rfl ?_
      exact hP _ (Or.inr ⟨by decide, by decide, by decide⟩)
    · refine t_1 qfo_1 rfl (t := (147, [])) rfl ?_
      show t_X d 188 147 lv [] g P
      refine t_0 qfo_147 rfl rfl ?_
      refine t_5 qfo_148 rfl rfl ?_
      exact hP _ (Or.inl rfl)
    · refine t_1 qfo_1 rfl (t := (147, [])) rfl ?_
      show t_X d 188 147 lv [] g P
      refine t_0 qfo_147 rfl rfl ?_
      refine t_5 qfo_148 rfl rfl ?_
      exact hP _ (Or.inl rfl)
    · refine t_1 qfo_1 rfl (t := (147, [])) rfl ?_
      show t_X d 188 147 lv [] g P
      refine t_0 qfo_147 rfl rfl ?_
      refine t_5 qfo_148 rfl rfl ?_
      exact hP _ (Or.inl rfl)
    · refine t_1 qfo_1 rfl (t := (147, [])) rfl ?_
      show t_X d 188 147 lv [] g P
      refine t_0 qfo_147 rfl rfl ?_
      refine t_5 qfo_148 rfl rfl ?_
      exact hP _ (Or.inl rfl)
    · refine t_1 qfo_1 rfl (t := (135, [])) rfl ?_
      show t_X d 188 135 lv [] g P
      refine t_0 qfo_135 rfl (pq_b (by decide)) ?_
      refine t_5 qfo_137 rfl rfl ?_
      exact hP _ (Or.inr ⟨by decide, by decide, by decide⟩)
    · refine t_1 qfo_1 rfl (t := (147, [])) rfl ?_
      show t_X d 188 147 lv [] g P
      refine t_0 qfo_147 rfl rfl ?_
      refine t_5 qfo_148 rfl rfl ?_
      exact hP _ (Or.inl rfl)
    · refine t_1 qfo_1 rfl (t := (147, [])) rfl ?_
      show t_X d 188 147 lv [] g P
      refine t_0 qfo_147 rfl rfl ?_
      refine t_5 qfo_148 rfl rfl ?_
      exact hP _ (Or.inl rfl)
    · refine t_1 qfo_1 rfl (t := (126, [])) rfl ?_
      show t_X d 188 126 lv [] g P
      refine t_0 qfo_126 rfl rfl ?_
      refine t_5 qfo_127 rfl rfl ?_
      exact hP _ (Or.inr ⟨by decide, by decide, by decide⟩)
    · refine t_1 qfo_1 rfl (t := (144, [])) rfl ?_
      show t_X d 188 144 lv [] g P
      refine t_0 qfo_144 rfl (pq_b (by decide)) ?_
      refine t_5 qfo_146 rfl rfl ?_
      exact hP _ (Or.inr ⟨by decide, by decide, by decide⟩)
