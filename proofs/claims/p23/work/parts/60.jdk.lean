/-! the library: indexOf of a text (String.indexOf and what it calls, Latin-1), printed in part by wip/e2/jdk.py -/
def jy_coder : MethodName := ⟨"java/lang/String", "coder", "()B"⟩
def jy_length : MethodName := ⟨"java/lang/String", "length", "()I"⟩
def jy_isL : MethodName := ⟨"java/lang/String", "isLatin1", "()Z"⟩
def jy_ixI : MethodName := ⟨"java/lang/String", "indexOf", "(I)I"⟩
def jy_ixII : MethodName := ⟨"java/lang/String", "indexOf", "(II)I"⟩
def jy_can : MethodName := ⟨"java/lang/StringLatin1", "canEncode", "(I)Z"⟩
def jy_ixL : MethodName := ⟨"java/lang/StringLatin1", "indexOf", "([BIII)I"⟩
def jy_ixC : MethodName := ⟨"java/lang/StringLatin1", "indexOfChar", "([BIII)I"⟩
def jy_bc : MethodName := ⟨"java/lang/Integer", "bitCount", "(I)I"⟩
def jy_ab : MethodName := ⟨"java/lang/Math", "abs", "(I)I"⟩
def jw_coder : List Cond := .code jy_coder prog_18_method_152_code 1 (some .byte) :: xe_T
def jw_length : List Cond := .code jy_length prog_18_method_54_code 1 (some .int) :: xe_T
def jw_isL : List Cond := .code jy_isL prog_18_method_154_code 1 (some .boolean) :: xe_T
def jw_ixI : List Cond := .code jy_ixI prog_18_method_79_code 2 (some .int) :: xe_T
def jw_ixII : List Cond := .code jy_ixII prog_18_method_80_code 3 (some .int) :: xe_T
def jw_can : List Cond := .code jy_can prog_19_method_4_code 1 (some .boolean) :: xe_T
def jw_ixL : List Cond := .code jy_ixL prog_19_method_22_code 4 (some .int) :: xe_T
def jw_ixC : List Cond := .code jy_ixC prog_19_method_23_code 6 (some .int) :: xe_T
def jw_bc : List Cond := .code jy_bc prog_16_method_49_code 1 (some .int) :: xe_T
def jw_ab : List Cond := .code jy_ab prog_17_method_59_code 1 (some .int) :: xe_T
theorem jx_633 : (.methodLink "java/lang/String" 633 jy_ixII : Cond) ∈ xe_T := xt_mem (z := 227) (by decide +kernel)
theorem jx_492 : (.methodLink "java/lang/String" 492 jy_isL : Cond) ∈ xe_T := xt_mem (z := 230) (by decide +kernel)
theorem jx_505 : (.methodLink "java/lang/String" 505 jy_length : Cond) ∈ xe_T := xt_mem (z := 234) (by decide +kernel)
theorem jx_335 : (.methodLink "java/lang/String" 335 jy_coder : Cond) ∈ xe_T := xt_mem (z := 237) (by decide +kernel)
theorem jx_637 : (.methodLink "java/lang/String" 637 jy_ixL : Cond) ∈ xe_T := xt_mem (z := 240) (by decide +kernel)
theorem jx_88 : (.methodLink "java/lang/StringLatin1" 88 jy_can : Cond) ∈ xe_T := xt_mem (z := 242) (by decide +kernel)
theorem jx_95 : (.methodLink "java/lang/StringLatin1" 95 jy_ixC : Cond) ∈ xe_T := xt_mem (z := 246) (by decide +kernel)
theorem jx_92 : (.methodLink "java/lang/StringLatin1" 92 Lib.Math.max.name : Cond) ∈ xe_T := xt_mem (z := 244) (by decide +kernel)
theorem jx_38 : (.methodLink "java/lang/StringLatin1" 38 Lib.Math.min.name : Cond) ∈ xe_T := xt_mem (z := 245) (by decide +kernel)
theorem jx_f38 : (.fieldLink "java/lang/String" 38 "java/lang/String" "COMPACT_STRINGS" "Z" : Cond) ∈ xe_T := xt_mem (z := 233) (by decide +kernel)
theorem jx_f15 : (.fieldLink "java/lang/String" 15 "java/lang/String" "coder" "B" : Cond) ∈ xe_T := xt_mem (z := 253) (by decide +kernel)
theorem jx_f9 : (.fieldLink "java/lang/String" 9 "java/lang/String" "value" "[B" : Cond) ∈ xe_T := xt_mem (z := 254) (by decide +kernel)
theorem jx_i_coder : (.instanceMethod jy_coder : Cond) ∈ xe_T := xt_mem (z := 238) (by decide +kernel)
theorem jx_s_coder : (.selects "java/lang/String" jy_coder jy_coder : Cond) ∈ xe_T := xt_mem (z := 239) (by decide +kernel)
theorem jx_i_length : (.instanceMethod jy_length : Cond) ∈ xe_T := xt_mem (z := 235) (by decide +kernel)
theorem jx_s_length : (.selects "java/lang/String" jy_length jy_length : Cond) ∈ xe_T := xt_mem (z := 236) (by decide +kernel)
theorem jx_i_isL : (.instanceMethod jy_isL : Cond) ∈ xe_T := xt_mem (z := 231) (by decide +kernel)
theorem jx_s_isL : (.selects "java/lang/String" jy_isL jy_isL : Cond) ∈ xe_T := xt_mem (z := 232) (by decide +kernel)
theorem jx_i_ixI : (.instanceMethod jy_ixI : Cond) ∈ xe_T := xt_mem (z := 225) (by decide +kernel)
theorem jx_s_ixI : (.selects "java/lang/String" jy_ixI jy_ixI : Cond) ∈ xe_T := xt_mem (z := 226) (by decide +kernel)
theorem jx_i_ixII : (.instanceMethod jy_ixII : Cond) ∈ xe_T := xt_mem (z := 228) (by decide +kernel)
theorem jx_s_ixII : (.selects "java/lang/String" jy_ixII jy_ixII : Cond) ∈ xe_T := xt_mem (z := 229) (by decide +kernel)
theorem jx_t_can : (.static jy_can : Cond) ∈ xe_T := xt_mem (z := 243) (by decide +kernel)
theorem jx_t_ixL : (.static jy_ixL : Cond) ∈ xe_T := xt_mem (z := 241) (by decide +kernel)
theorem jx_t_ixC : (.static jy_ixC : Cond) ∈ xe_T := xt_mem (z := 247) (by decide +kernel)
theorem jx_t_bc : (.static jy_bc : Cond) ∈ xe_T := xt_mem (z := 249) (by decide +kernel)
theorem jx_t_ab : (.static jy_ab : Cond) ∈ xe_T := xt_mem (z := 255) (by decide +kernel)
theorem jx_c_coder : (.code jy_coder prog_18_method_152_code 1 (some .byte) : Cond) ∈ xe_T := xt_mem (z := 1384) (by decide +kernel)
theorem jx_c_length : (.code jy_length prog_18_method_54_code 1 (some .int) : Cond) ∈ xe_T := xt_mem (z := 1383) (by decide +kernel)
theorem jx_c_isL : (.code jy_isL prog_18_method_154_code 1 (some .boolean) : Cond) ∈ xe_T := xt_mem (z := 1382) (by decide +kernel)
theorem jx_c_ixI : (.code jy_ixI prog_18_method_79_code 2 (some .int) : Cond) ∈ xe_T := xt_mem (z := 1380) (by decide +kernel)
theorem jx_c_ixII : (.code jy_ixII prog_18_method_80_code 3 (some .int) : Cond) ∈ xe_T := xt_mem (z := 1381) (by decide +kernel)
theorem jx_c_can : (.code jy_can prog_19_method_4_code 1 (some .boolean) : Cond) ∈ xe_T := xt_mem (z := 1386) (by decide +kernel)
theorem jx_c_ixL : (.code jy_ixL prog_19_method_22_code 4 (some .int) : Cond) ∈ xe_T := xt_mem (z := 1385) (by decide +kernel)
theorem jx_c_ixC : (.code jy_ixC prog_19_method_23_code 6 (some .int) : Cond) ∈ xe_T := xt_mem (z := 1387) (by decide +kernel)
theorem jx_c_bc : (.code jy_bc prog_16_method_49_code 1 (some .int) : Cond) ∈ xe_T := xt_mem (z := 1388) (by decide +kernel)
theorem jx_c_ab : (.code jy_ab prog_17_method_59_code 1 (some .int) : Cond) ∈ xe_T := xt_mem (z := 1389) (by decide +kernel)
theorem jx_k265 : (.constant "java/lang/Integer" 265 1431655765 : Cond) ∈ xe_T := xt_mem (z := 250) (by decide +kernel)
theorem jx_k266 : (.constant "java/lang/Integer" 266 858993459 : Cond) ∈ xe_T := xt_mem (z := 251) (by decide +kernel)
theorem jx_k267 : (.constant "java/lang/Integer" 267 252645135 : Cond) ∈ xe_T := xt_mem (z := 252) (by decide +kernel)
theorem jx_abT : (.static Lib.Math.abs.name : Cond) ∈ xe_T := xt_mem (z := 255) (by decide +kernel)
theorem jx_abC : (.code Lib.Math.abs.name Lib.Math.abs.code 1 (some .int) : Cond) ∈ xe_T := xt_mem (z := 1389) (by decide +kernel)
theorem jx_n_I : (.initialized "java/lang/Integer" : Cond) ∈ xe_T := xt_mem (z := 223) (by decide +kernel)
theorem jx_n_S : (.initialized "java/lang/String" : Cond) ∈ xe_T := xt_mem (z := 221) (by decide +kernel)
theorem jx_n_L1 : (.initialized "java/lang/StringLatin1" : Cond) ∈ xe_T := xt_mem (z := 222) (by decide +kernel)
theorem jd_coder_0 : decode prog_18_method_152_code 0 = .ok (.getstatic 38, 3) := by decide +kernel
theorem jd_coder_3 : decode prog_18_method_152_code 3 = .ok (.ifCond .eq 10, 3) := by decide +kernel
theorem jd_coder_6 : decode prog_18_method_152_code 6 = .ok (.aload_n 0, 1) := by decide +kernel
theorem jd_coder_7 : decode prog_18_method_152_code 7 = .ok (.getfield 15, 3) := by decide +kernel
theorem jd_coder_10 : decode prog_18_method_152_code 10 = .ok (.goto 4, 3) := by decide +kernel
theorem jd_coder_13 : decode prog_18_method_152_code 13 = .ok (.iconst 1, 1) := by decide +kernel
theorem jd_coder_14 : decode prog_18_method_152_code 14 = .ok (.ireturn, 1) := by decide +kernel
theorem jd_length_0 : decode prog_18_method_54_code 0 = .ok (.aload_n 0, 1) := by decide +kernel
theorem jd_length_1 : decode prog_18_method_54_code 1 = .ok (.getfield 9, 3) := by decide +kernel
theorem jd_length_4 : decode prog_18_method_54_code 4 = .ok (.arraylength, 1) := by decide +kernel
theorem jd_length_5 : decode prog_18_method_54_code 5 = .ok (.aload_n 0, 1) := by decide +kernel
theorem jd_length_6 : decode prog_18_method_54_code 6 = .ok (.invokevirtual 335, 3) := by decide +kernel
theorem jd_length_9 : decode prog_18_method_54_code 9 = .ok (.ishr, 1) := by decide +kernel
theorem jd_length_10 : decode prog_18_method_54_code 10 = .ok (.ireturn, 1) := by decide +kernel
theorem jd_isL_0 : decode prog_18_method_154_code 0 = .ok (.getstatic 38, 3) := by decide +kernel
theorem jd_isL_3 : decode prog_18_method_154_code 3 = .ok (.ifCond .eq 14, 3) := by decide +kernel
theorem jd_isL_6 : decode prog_18_method_154_code 6 = .ok (.aload_n 0, 1) := by decide +kernel
theorem jd_isL_7 : decode prog_18_method_154_code 7 = .ok (.getfield 15, 3) := by decide +kernel
theorem jd_isL_10 : decode prog_18_method_154_code 10 = .ok (.ifCond .ne 7, 3) := by decide +kernel
theorem jd_isL_13 : decode prog_18_method_154_code 13 = .ok (.iconst 1, 1) := by decide +kernel
theorem jd_isL_14 : decode prog_18_method_154_code 14 = .ok (.goto 4, 3) := by decide +kernel
theorem jd_isL_17 : decode prog_18_method_154_code 17 = .ok (.iconst 0, 1) := by decide +kernel
theorem jd_isL_18 : decode prog_18_method_154_code 18 = .ok (.ireturn, 1) := by decide +kernel
theorem jd_ixI_0 : decode prog_18_method_79_code 0 = .ok (.aload_n 0, 1) := by decide +kernel
theorem jd_ixI_1 : decode prog_18_method_79_code 1 = .ok (.iload_n 1, 1) := by decide +kernel
theorem jd_ixI_2 : decode prog_18_method_79_code 2 = .ok (.iconst 0, 1) := by decide +kernel
theorem jd_ixI_3 : decode prog_18_method_79_code 3 = .ok (.invokevirtual 633, 3) := by decide +kernel
theorem jd_ixI_6 : decode prog_18_method_79_code 6 = .ok (.ireturn, 1) := by decide +kernel
theorem jd_ixII_0 : decode prog_18_method_80_code 0 = .ok (.aload_n 0, 1) := by decide +kernel
theorem jd_ixII_1 : decode prog_18_method_80_code 1 = .ok (.invokevirtual 492, 3) := by decide +kernel
theorem jd_ixII_4 : decode prog_18_method_80_code 4 = .ok (.ifCond .eq 19, 3) := by decide +kernel
theorem jd_ixII_7 : decode prog_18_method_80_code 7 = .ok (.aload_n 0, 1) := by decide +kernel
theorem jd_ixII_8 : decode prog_18_method_80_code 8 = .ok (.getfield 9, 3) := by decide +kernel
theorem jd_ixII_11 : decode prog_18_method_80_code 11 = .ok (.iload_n 1, 1) := by decide +kernel
theorem jd_ixII_12 : decode prog_18_method_80_code 12 = .ok (.iload_n 2, 1) := by decide +kernel
theorem jd_ixII_13 : decode prog_18_method_80_code 13 = .ok (.aload_n 0, 1) := by decide +kernel
theorem jd_ixII_14 : decode prog_18_method_80_code 14 = .ok (.invokevirtual 505, 3) := by decide +kernel
theorem jd_ixII_17 : decode prog_18_method_80_code 17 = .ok (.invokestatic 637, 3) := by decide +kernel
theorem jd_ixII_20 : decode prog_18_method_80_code 20 = .ok (.goto 16, 3) := by decide +kernel
theorem jd_ixII_23 : decode prog_18_method_80_code 23 = .ok (.aload_n 0, 1) := by decide +kernel
theorem jd_ixII_24 : decode prog_18_method_80_code 24 = .ok (.getfield 9, 3) := by decide +kernel
theorem jd_ixII_27 : decode prog_18_method_80_code 27 = .ok (.iload_n 1, 1) := by decide +kernel
theorem jd_ixII_28 : decode prog_18_method_80_code 28 = .ok (.iload_n 2, 1) := by decide +kernel
theorem jd_ixII_29 : decode prog_18_method_80_code 29 = .ok (.aload_n 0, 1) := by decide +kernel
theorem jd_ixII_30 : decode prog_18_method_80_code 30 = .ok (.invokevirtual 505, 3) := by decide +kernel
theorem jd_ixII_33 : decode prog_18_method_80_code 33 = .ok (.invokestatic 640, 3) := by decide +kernel
theorem jd_ixII_36 : decode prog_18_method_80_code 36 = .ok (.ireturn, 1) := by decide +kernel
theorem jd_can_0 : decode prog_19_method_4_code 0 = .ok (.iload_n 0, 1) := by decide +kernel
theorem jd_can_1 : decode prog_19_method_4_code 1 = .ok (.ifCond .lt 14, 3) := by decide +kernel
theorem jd_can_4 : decode prog_19_method_4_code 4 = .ok (.iload_n 0, 1) := by decide +kernel
theorem jd_can_5 : decode prog_19_method_4_code 5 = .ok (.sipush 255, 3) := by decide +kernel
theorem jd_can_8 : decode prog_19_method_4_code 8 = .ok (.if_icmp .gt 7, 3) := by decide +kernel
theorem jd_can_11 : decode prog_19_method_4_code 11 = .ok (.iconst 1, 1) := by decide +kernel
theorem jd_can_12 : decode prog_19_method_4_code 12 = .ok (.goto 4, 3) := by decide +kernel
theorem jd_can_15 : decode prog_19_method_4_code 15 = .ok (.iconst 0, 1) := by decide +kernel
theorem jd_can_16 : decode prog_19_method_4_code 16 = .ok (.ireturn, 1) := by decide +kernel
theorem jd_ixL_0 : decode prog_19_method_22_code 0 = .ok (.iload_n 1, 1) := by decide +kernel
theorem jd_ixL_1 : decode prog_19_method_22_code 1 = .ok (.invokestatic 88, 3) := by decide +kernel
theorem jd_ixL_4 : decode prog_19_method_22_code 4 = .ok (.ifCond .ne 5, 3) := by decide +kernel
theorem jd_ixL_7 : decode prog_19_method_22_code 7 = .ok (.iconst (-1), 1) := by decide +kernel
theorem jd_ixL_8 : decode prog_19_method_22_code 8 = .ok (.ireturn, 1) := by decide +kernel
theorem jd_ixL_9 : decode prog_19_method_22_code 9 = .ok (.iload_n 2, 1) := by decide +kernel
theorem jd_ixL_10 : decode prog_19_method_22_code 10 = .ok (.iconst 0, 1) := by decide +kernel
theorem jd_ixL_11 : decode prog_19_method_22_code 11 = .ok (.invokestatic 92, 3) := by decide +kernel
theorem jd_ixL_14 : decode prog_19_method_22_code 14 = .ok (.istore_n 2, 1) := by decide +kernel
theorem jd_ixL_15 : decode prog_19_method_22_code 15 = .ok (.iload_n 3, 1) := by decide +kernel
theorem jd_ixL_16 : decode prog_19_method_22_code 16 = .ok (.aload_n 0, 1) := by decide +kernel
theorem jd_ixL_17 : decode prog_19_method_22_code 17 = .ok (.arraylength, 1) := by decide +kernel
theorem jd_ixL_18 : decode prog_19_method_22_code 18 = .ok (.invokestatic 38, 3) := by decide +kernel
theorem jd_ixL_21 : decode prog_19_method_22_code 21 = .ok (.istore_n 3, 1) := by decide +kernel
theorem jd_ixL_22 : decode prog_19_method_22_code 22 = .ok (.iload_n 2, 1) := by decide +kernel
theorem jd_ixL_23 : decode prog_19_method_22_code 23 = .ok (.iload_n 3, 1) := by decide +kernel
theorem jd_ixL_24 : decode prog_19_method_22_code 24 = .ok (.if_icmp .lt 5, 3) := by decide +kernel
theorem jd_ixL_27 : decode prog_19_method_22_code 27 = .ok (.iconst (-1), 1) := by decide +kernel
theorem jd_ixL_28 : decode prog_19_method_22_code 28 = .ok (.ireturn, 1) := by decide +kernel
theorem jd_ixL_29 : decode prog_19_method_22_code 29 = .ok (.aload_n 0, 1) := by decide +kernel
theorem jd_ixL_30 : decode prog_19_method_22_code 30 = .ok (.iload_n 1, 1) := by decide +kernel
theorem jd_ixL_31 : decode prog_19_method_22_code 31 = .ok (.iload_n 2, 1) := by decide +kernel
theorem jd_ixL_32 : decode prog_19_method_22_code 32 = .ok (.iload_n 3, 1) := by decide +kernel
theorem jd_ixL_33 : decode prog_19_method_22_code 33 = .ok (.invokestatic 95, 3) := by decide +kernel
theorem jd_ixL_36 : decode prog_19_method_22_code 36 = .ok (.ireturn, 1) := by decide +kernel
theorem jd_ixC_0 : decode prog_19_method_23_code 0 = .ok (.iload_n 1, 1) := by decide +kernel
theorem jd_ixC_1 : decode prog_19_method_23_code 1 = .ok (.i2b, 1) := by decide +kernel
theorem jd_ixC_2 : decode prog_19_method_23_code 2 = .ok (.istore 4, 2) := by decide +kernel
theorem jd_ixC_4 : decode prog_19_method_23_code 4 = .ok (.iload_n 2, 1) := by decide +kernel
theorem jd_ixC_5 : decode prog_19_method_23_code 5 = .ok (.istore 5, 2) := by decide +kernel
theorem jd_ixC_7 : decode prog_19_method_23_code 7 = .ok (.iload 5, 2) := by decide +kernel
theorem jd_ixC_9 : decode prog_19_method_23_code 9 = .ok (.iload_n 3, 1) := by decide +kernel
theorem jd_ixC_10 : decode prog_19_method_23_code 10 = .ok (.if_icmp .ge 21, 3) := by decide +kernel
theorem jd_ixC_13 : decode prog_19_method_23_code 13 = .ok (.aload_n 0, 1) := by decide +kernel
theorem jd_ixC_14 : decode prog_19_method_23_code 14 = .ok (.iload 5, 2) := by decide +kernel
theorem jd_ixC_16 : decode prog_19_method_23_code 16 = .ok (.baload, 1) := by decide +kernel
theorem jd_ixC_17 : decode prog_19_method_23_code 17 = .ok (.iload 4, 2) := by decide +kernel
theorem jd_ixC_19 : decode prog_19_method_23_code 19 = .ok (.if_icmp .ne 6, 3) := by decide +kernel
theorem jd_ixC_22 : decode prog_19_method_23_code 22 = .ok (.iload 5, 2) := by decide +kernel
theorem jd_ixC_24 : decode prog_19_method_23_code 24 = .ok (.ireturn, 1) := by decide +kernel
theorem jd_ixC_25 : decode prog_19_method_23_code 25 = .ok (.iinc 5 1, 3) := by decide +kernel
theorem jd_ixC_28 : decode prog_19_method_23_code 28 = .ok (.goto (-21), 3) := by decide +kernel
theorem jd_ixC_31 : decode prog_19_method_23_code 31 = .ok (.iconst (-1), 1) := by decide +kernel
theorem jd_ixC_32 : decode prog_19_method_23_code 32 = .ok (.ireturn, 1) := by decide +kernel
theorem jd_bc_0 : decode prog_16_method_49_code 0 = .ok (.iload_n 0, 1) := by decide +kernel
theorem jd_bc_1 : decode prog_16_method_49_code 1 = .ok (.iload_n 0, 1) := by decide +kernel
theorem jd_bc_2 : decode prog_16_method_49_code 2 = .ok (.iconst 1, 1) := by decide +kernel
theorem jd_bc_3 : decode prog_16_method_49_code 3 = .ok (.iushr, 1) := by decide +kernel
theorem jd_bc_4 : decode prog_16_method_49_code 4 = .ok (.ldc_w 265, 3) := by decide +kernel
theorem jd_bc_7 : decode prog_16_method_49_code 7 = .ok (.iand, 1) := by decide +kernel
theorem jd_bc_8 : decode prog_16_method_49_code 8 = .ok (.isub, 1) := by decide +kernel
theorem jd_bc_9 : decode prog_16_method_49_code 9 = .ok (.istore_n 0, 1) := by decide +kernel
theorem jd_bc_10 : decode prog_16_method_49_code 10 = .ok (.iload_n 0, 1) := by decide +kernel
theorem jd_bc_11 : decode prog_16_method_49_code 11 = .ok (.ldc_w 266, 3) := by decide +kernel
theorem jd_bc_14 : decode prog_16_method_49_code 14 = .ok (.iand, 1) := by decide +kernel
theorem jd_bc_15 : decode prog_16_method_49_code 15 = .ok (.iload_n 0, 1) := by decide +kernel
theorem jd_bc_16 : decode prog_16_method_49_code 16 = .ok (.iconst 2, 1) := by decide +kernel
theorem jd_bc_17 : decode prog_16_method_49_code 17 = .ok (.iushr, 1) := by decide +kernel
theorem jd_bc_18 : decode prog_16_method_49_code 18 = .ok (.ldc_w 266, 3) := by decide +kernel
theorem jd_bc_21 : decode prog_16_method_49_code 21 = .ok (.iand, 1) := by decide +kernel
theorem jd_bc_22 : decode prog_16_method_49_code 22 = .ok (.iadd, 1) := by decide +kernel
theorem jd_bc_23 : decode prog_16_method_49_code 23 = .ok (.istore_n 0, 1) := by decide +kernel
theorem jd_bc_24 : decode prog_16_method_49_code 24 = .ok (.iload_n 0, 1) := by decide +kernel
theorem jd_bc_25 : decode prog_16_method_49_code 25 = .ok (.iload_n 0, 1) := by decide +kernel
theorem jd_bc_26 : decode prog_16_method_49_code 26 = .ok (.iconst 4, 1) := by decide +kernel
theorem jd_bc_27 : decode prog_16_method_49_code 27 = .ok (.iushr, 1) := by decide +kernel
theorem jd_bc_28 : decode prog_16_method_49_code 28 = .ok (.iadd, 1) := by decide +kernel
theorem jd_bc_29 : decode prog_16_method_49_code 29 = .ok (.ldc_w 267, 3) := by decide +kernel
theorem jd_bc_32 : decode prog_16_method_49_code 32 = .ok (.iand, 1) := by decide +kernel
theorem jd_bc_33 : decode prog_16_method_49_code 33 = .ok (.istore_n 0, 1) := by decide +kernel
theorem jd_bc_34 : decode prog_16_method_49_code 34 = .ok (.iload_n 0, 1) := by decide +kernel
theorem jd_bc_35 : decode prog_16_method_49_code 35 = .ok (.iload_n 0, 1) := by decide +kernel
theorem jd_bc_36 : decode prog_16_method_49_code 36 = .ok (.bipush 8, 2) := by decide +kernel
theorem jd_bc_38 : decode prog_16_method_49_code 38 = .ok (.iushr, 1) := by decide +kernel
theorem jd_bc_39 : decode prog_16_method_49_code 39 = .ok (.iadd, 1) := by decide +kernel
theorem jd_bc_40 : decode prog_16_method_49_code 40 = .ok (.istore_n 0, 1) := by decide +kernel
theorem jd_bc_41 : decode prog_16_method_49_code 41 = .ok (.iload_n 0, 1) := by decide +kernel
theorem jd_bc_42 : decode prog_16_method_49_code 42 = .ok (.iload_n 0, 1) := by decide +kernel
theorem jd_bc_43 : decode prog_16_method_49_code 43 = .ok (.bipush 16, 2) := by decide +kernel
theorem jd_bc_45 : decode prog_16_method_49_code 45 = .ok (.iushr, 1) := by decide +kernel
theorem jd_bc_46 : decode prog_16_method_49_code 46 = .ok (.iadd, 1) := by decide +kernel
theorem jd_bc_47 : decode prog_16_method_49_code 47 = .ok (.istore_n 0, 1) := by decide +kernel
theorem jd_bc_48 : decode prog_16_method_49_code 48 = .ok (.iload_n 0, 1) := by decide +kernel
theorem jd_bc_49 : decode prog_16_method_49_code 49 = .ok (.bipush 63, 2) := by decide +kernel
theorem jd_bc_51 : decode prog_16_method_49_code 51 = .ok (.iand, 1) := by decide +kernel
theorem jd_bc_52 : decode prog_16_method_49_code 52 = .ok (.ireturn, 1) := by decide +kernel
theorem jd_ab_0 : decode prog_17_method_59_code 0 = .ok (.iload_n 0, 1) := by decide +kernel
theorem jd_ab_1 : decode prog_17_method_59_code 1 = .ok (.ifCond .ge 8, 3) := by decide +kernel
theorem jd_ab_4 : decode prog_17_method_59_code 4 = .ok (.iload_n 0, 1) := by decide +kernel
theorem jd_ab_5 : decode prog_17_method_59_code 5 = .ok (.ineg, 1) := by decide +kernel
theorem jd_ab_6 : decode prog_17_method_59_code 6 = .ok (.goto 4, 3) := by decide +kernel
theorem jd_ab_9 : decode prog_17_method_59_code 9 = .ok (.iload_n 0, 1) := by decide +kernel
theorem jd_ab_10 : decode prog_17_method_59_code 10 = .ok (.ireturn, 1) := by decide +kernel
def js_len : List Nat := xs_by.map List.length
def js_by : List (List Int32) := xs_by.map (fun l => l.map nI)
def jU (adK adV : Nat → Nat) (sz : Nat) (U : State) : Prop := U.heap.size = sz ∧ vk_S 5 js_len js_by adK adV (va_A [] sz) U U.heap ∧ va_Z "java/lang/String" "COMPACT_STRINGS" "Z" (.int 1) (va_A [] sz) U U.heap
theorem j_blind {vc : List Value} {adK adV : Nat → Nat} {sz : Nat} : FrameBlind (va_Pc vc (jU adK adV sz)) := fun a U g mk q => by
  obtain ⟨q0, q1, q2, q3⟩ := q
  exact ⟨q0, q1, vk_S.moved (u := U) (U := U.calling g mk a) (Vm.Alike.refl U.vm) q2, va_Z.moved (u := U) (U := U.calling g mk a) (Vm.Alike.refl U.vm) q3⟩
theorem j_pre {vc : List Value} {adK adV : Nat → Nat} {A : Nat → Prop} {s : State} {H : Heap} {locs : List Loc} (hS : va_S A s.heap H locs) (hA : ∀ q : Nat, s.heap.size ≤ q → A q) (hE : vk_S 5 js_len js_by adK adV A s s.heap) (hZ : va_Z "java/lang/String" "COMPACT_STRINGS" "Z" (.int 1) A s s.heap) : ∀ U : State, U.heap = H → s.WarmedH U.vm → va_Pc vc (jU adK adV H.size) vc.toArray U := fun U hU hW => by
  have hn : ∀ q, va_A [] H.size q → A q := fun q h => by
    rcases h with ⟨k, e, h⟩ | h
    · cases h
    · exact hA q (Nat.le_trans hS.1 h)
  refine ⟨rfl, by rw [hU], ?_, ?_⟩
  · rw [hU]; exact ((hE.kept hS.2.1).narrow hn).moved hW.alike
  · rw [hU]; exact ((hZ.kept hS.2.1).narrow hn).moved hW.alike
/-- a pure answer -/
def jM (l : Launch) (y : MethodName) (bytes : ByteArray) (maxL : Nat) (ret : Option FieldType) (fr : Nat) (vc : List Value) (adK adV : Nat → Nat) (sz : Nat) (r : Int32) : Prop := Met l y (.code y bytes maxL ret :: xe_T) { frames := fr, cells := 0, slots := 0, locals := 64 * fr } (va_Pc vc (jU adK adV sz)) (va_Qi (fun (z : Int32) (_ : Unit) => z = r) (fun _ _ => True) (va_A [] sz)) 0 0 (va_A [] sz)
theorem j_good {y : MethodName} {bytes : ByteArray} {maxL : Nat} {ret : Option FieldType} (h : Cond.code y bytes maxL ret ∈ xe_T) : ∀ w ∈ (Cond.code y bytes maxL ret :: xe_T), w ∈ xe_T := fun w hw => by
  rcases List.mem_cons.mp hw with rfl | hw
  · exact h
  · exact hw
theorem j_shr {n : Nat} (h : n < 12) : nI n >>> ((0 : Int32) &&& 31) = nI n := by
  have : ∀ n, n < 12 → nI n >>> ((0 : Int32) &&& 31) = nI n := by decide +kernel
  exact this n h
theorem j_len {i : Nat} (h : i < 5) : js_len.getD i 0 < 12 := by
  have : ∀ i, i < 5 → js_len.getD i 0 < 12 := by decide +kernel
  exact this i h

set_option maxHeartbeats 4000000 in
theorem jm_coder (l : Launch) (adK adV : Nat → Nat) (sz : Nat) (i : Nat) (hi : i < 5) : jM l jy_coder prog_18_method_152_code 1 (some .byte) 1 [.ref (adK i)] adK adV sz 0 := by
  refine Met.ofW (cc := prog_18_method_152_code) (maxL := 1) (ret := some .byte) (by decide) rfl ?_
  intro p e s m args below meth c s₁ B hml hv
  obtain ⟨rfl, hsz, hE, hZ⟩ := hv
  have hx := B.exec
  have hb := B.bytes
  have hr := B.returns
  have hts0 := atoms_spec (ws := jw_coder) B.pre
  have hts : ∀ w ∈ xe_T, w.before _ s = true := fun w hw => hts0 w (List.mem_cons_of_mem _ hw)
  have hown : s.vm.findClass "java/lang/String" = some m.cls := findClass_of_methodNamed B.named
  have hlocks := B.notSynchronized
  subst hsz
  generalize hAe : va_A [] s.heap.size = A at hE hZ ⊢
  have hA : ∀ q : Nat, s.heap.size ≤ q → A q := fun q h => by rw [← hAe]; exact Or.inr h
  have hS : va_S A s.heap s.heap [] := va_S.rf
  have hl := lv_entry ([.ref (adK i)]) (n := 1) (Nat.le_of_ble_eq_true rfl)
  rw [lg_entry_eq]
  generalize (lg_sl ([.ref (adK i)]) ++ List.replicate (1 - (lg_sl ([.ref (adK i)])).length) Slot.unset).toArray = ls at hl ⊢
  have hl : lv_has ls 1 [(0, .ref (adK i))] := hl
  refine va_gets hx hb hZ hS hown (hts _ jx_f38) (fun _ h => h) jd_coder_0 ?_
  refine lv_if_eq hx hb jd_coder_3 (by decide) (tgt := 13) (fun h => absurd h (by decide)) (fun _ => ?_)
  refine lv_aload_n hx hb jd_coder_6 rfl (lv_at hl 0 rfl) ?_
  refine vk_getf hx hb (hE.1 i hi).2.1 hS hown (hts _ jx_f15) (fun _ h => h) jd_coder_7 ?_
  refine lv_goto hx hb jd_coder_10 (by decide) (tgt := 14) ?_
  exact W.zret (v := 0) hx hb hr (by decide +kernel) (fun t ht hW => ⟨⟨0, (), rfl, rfl, trivial⟩, hS.F ht⟩) hS.2.2 jd_coder_14 hlocks

set_option maxHeartbeats 4000000 in
theorem jm_isL (l : Launch) (adK adV : Nat → Nat) (sz : Nat) (i : Nat) (hi : i < 5) : jM l jy_isL prog_18_method_154_code 1 (some .boolean) 1 [.ref (adK i)] adK adV sz 1 := by
  refine Met.ofW (cc := prog_18_method_154_code) (maxL := 1) (ret := some .boolean) (by decide) rfl ?_
  intro p e s m args below meth c s₁ B hml hv
  obtain ⟨rfl, hsz, hE, hZ⟩ := hv
  have hx := B.exec
  have hb := B.bytes
  have hr := B.returns
  have hts0 := atoms_spec (ws := jw_isL) B.pre
  have hts : ∀ w ∈ xe_T, w.before _ s = true := fun w hw => hts0 w (List.mem_cons_of_mem _ hw)
  have hown : s.vm.findClass "java/lang/String" = some m.cls := findClass_of_methodNamed B.named
  have hlocks := B.notSynchronized
  subst hsz
  generalize hAe : va_A [] s.heap.size = A at hE hZ ⊢
  have hA : ∀ q : Nat, s.heap.size ≤ q → A q := fun q h => by rw [← hAe]; exact Or.inr h
  have hS : va_S A s.heap s.heap [] := va_S.rf
  have hl := lv_entry ([.ref (adK i)]) (n := 1) (Nat.le_of_ble_eq_true rfl)
  rw [lg_entry_eq]
  generalize (lg_sl ([.ref (adK i)]) ++ List.replicate (1 - (lg_sl ([.ref (adK i)])).length) Slot.unset).toArray = ls at hl ⊢
  have hl : lv_has ls 1 [(0, .ref (adK i))] := hl
  refine va_gets hx hb hZ hS hown (hts _ jx_f38) (fun _ h => h) jd_isL_0 ?_
  refine lv_if_eq hx hb jd_isL_3 (by decide) (tgt := 17) (fun h => absurd h (by decide)) (fun _ => ?_)
  refine lv_aload_n hx hb jd_isL_6 rfl (lv_at hl 0 rfl) ?_
  refine vk_getf hx hb (hE.1 i hi).2.1 hS hown (hts _ jx_f15) (fun _ h => h) jd_isL_7 ?_
  refine lv_if_ne hx hb jd_isL_10 (by decide) (tgt := 17) (fun h => absurd rfl h) (fun _ => ?_)
  refine lv_iconst (v := 1) hx hb jd_isL_13 (by decide) ?_
  refine lv_goto hx hb jd_isL_14 (by decide) (tgt := 18) ?_
  exact W.zret (v := 1) hx hb hr (by decide +kernel) (fun t ht hW => ⟨⟨1, (), rfl, rfl, trivial⟩, hS.F ht⟩) hS.2.2 jd_isL_18 hlocks

set_option maxHeartbeats 4000000 in
theorem jm_length (l : Launch) (adK adV : Nat → Nat) (sz : Nat) (i : Nat) (hi : i < 5) : jM l jy_length prog_18_method_54_code 1 (some .int) 2 [.ref (adK i)] adK adV sz (nI (js_len.getD i 0)) := by
  refine Met.ofW (cc := prog_18_method_54_code) (maxL := 1) (ret := some .int) (by decide) rfl ?_
  intro p e s m args below meth c s₁ B hml hv
  obtain ⟨rfl, hsz, hE, hZ⟩ := hv
  have hx := B.exec
  have hb := B.bytes
  have hr := B.returns
  have hts0 := atoms_spec (ws := jw_length) B.pre
  have hts : ∀ w ∈ xe_T, w.before _ s = true := fun w hw => hts0 w (List.mem_cons_of_mem _ hw)
  have hown : s.vm.findClass "java/lang/String" = some m.cls := findClass_of_methodNamed B.named
  have hlocks := B.notSynchronized
  subst hsz
  generalize hAe : va_A [] s.heap.size = A at hE hZ ⊢
  have hA : ∀ q : Nat, s.heap.size ≤ q → A q := fun q h => by rw [← hAe]; exact Or.inr h
  have hS : va_S A s.heap s.heap [] := va_S.rf
  have hl := lv_entry ([.ref (adK i)]) (n := 1) (Nat.le_of_ble_eq_true rfl)
  rw [lg_entry_eq]
  generalize (lg_sl ([.ref (adK i)]) ++ List.replicate (1 - (lg_sl ([.ref (adK i)])).length) Slot.unset).toArray = ls at hl ⊢
  have hl : lv_has ls 1 [(0, .ref (adK i))] := hl
  refine lv_aload_n hx hb jd_length_0 rfl (lv_at hl 0 rfl) ?_
  refine vk_getf hx hb (hE.1 i hi).2.2.1 hS hown (hts _ jx_f9) (fun _ h => h) jd_length_1 ?_
  refine va_tlen (v := nI (js_len.getD i 0)) hx hb (hE.1 i hi).2.2.2 hS rfl jd_length_4 ?_
  refine lv_aload_n hx hb jd_length_5 rfl (lv_at hl 0 rfl) ?_
  refine va_calli (va_runV (As := []) (rest := [.int (nI (js_len.getD i 0))]) ⟨hx, hb, hml, hown, hts⟩ (jm_coder l adK adV s.heap.size i hi) (cwV (C := "java/lang/String") (ws' := xe_T) 0 hts (xe_GT (fun w hw => by
    rcases List.mem_append.mp hw with hw | hw
    · simp only [List.mem_cons, List.not_mem_nil, or_false] at hw
      rcases hw with rfl | rfl | rfl | rfl
      · exact jx_335
      · exact jx_i_coder
      · exact jx_s_coder
      · exact jx_n_S
    · exact j_good jx_c_coder w hw)) rfl rfl rfl (by decide +kernel) ⟨Nat.le_of_ble_eq_true rfl, Nat.le_of_ble_eq_true rfl⟩) ⟨j_blind, vk_recv hE hi hS, j_pre hS hA hE hZ⟩ rfl rfl hl.1 rfl (lv_room (Nat.le_of_ble_eq_true rfl)) jd_length_6 ⟨Nat.zero_le _, Nat.zero_le _⟩) hS (fun q _ h => by
    rcases h with ⟨k, e, h⟩ | h
    · cases h
    · exact hA q (Nat.le_trans hS.1 h)) (fun q h => by
    rcases h with ⟨k, e, h⟩ | h
    · cases h
    · exact hA q (Nat.le_trans hS.1 h)) (fun r u t H1 locs ht hvm hw hB hz1 hk1 hS => ?_)
  subst hw
  refine lv_ishr hx hb jd_length_9 ?_
  rw [j_shr (j_len hi)]
  exact W.iret (v := nI (js_len.getD i 0)) hx hb hr (fun t ht hW => ⟨⟨nI (js_len.getD i 0), (), rfl, rfl, trivial⟩, hS.F ht⟩) hS.2.2 jd_length_10 hlocks

def j_can (c : Int32) : Int32 := if c < 0 then 0 else if 255 < c then 0 else 1

set_option maxHeartbeats 4000000 in
theorem jm_can (l : Launch) (adK adV : Nat → Nat) (sz : Nat) (ch : Int32) : jM l jy_can prog_19_method_4_code 1 (some .boolean) 1 [.int ch] adK adV sz (j_can ch) := by
  refine Met.ofW (cc := prog_19_method_4_code) (maxL := 1) (ret := some .boolean) (by decide) rfl ?_
  intro p e s m args below meth c s₁ B hml hv
  obtain ⟨rfl, hsz, hE, hZ⟩ := hv
  have hx := B.exec
  have hb := B.bytes
  have hr := B.returns
  have hts0 := atoms_spec (ws := jw_can) B.pre
  have hts : ∀ w ∈ xe_T, w.before _ s = true := fun w hw => hts0 w (List.mem_cons_of_mem _ hw)
  have hown : s.vm.findClass "java/lang/StringLatin1" = some m.cls := findClass_of_methodNamed B.named
  have hlocks := B.notSynchronized
  subst hsz
  generalize hAe : va_A [] s.heap.size = A at hE hZ ⊢
  have hA : ∀ q : Nat, s.heap.size ≤ q → A q := fun q h => by rw [← hAe]; exact Or.inr h
  have hS : va_S A s.heap s.heap [] := va_S.rf
  have hl := lv_entry ([.int ch]) (n := 1) (Nat.le_of_ble_eq_true rfl)
  rw [lg_entry_eq]
  generalize (lg_sl ([.int ch]) ++ List.replicate (1 - (lg_sl ([.int ch])).length) Slot.unset).toArray = ls at hl ⊢
  have hl : lv_has ls 1 [(0, .int ch)] := hl
  have fin : ∀ v : Int32, (v = 0 ∨ v = 1) → v = j_can ch → W p l e (headSpec (jw_can) { frames := 1, cells := 0, slots := 0, locals := 64 * 1 }).room s m [Value.int ch].toArray below meth c s.heap [] 0 0 (MQ below (va_Qi (fun (z : Int32) (_ : Unit) => z = j_can ch) (fun _ _ => True) A) [Value.int ch].toArray s 0 0 A) (F0 m 16 ls [.int v]) := by
    intro v h01 hv
    refine W.zret (v := v) hx hb hr ?_ (fun t ht hW => ⟨⟨v, (), rfl, hv, trivial⟩, hS.F ht⟩) hS.2.2 jd_can_16 hlocks
    rcases h01 with rfl | rfl <;> decide +kernel
  refine lv_iload_n hx hb jd_can_0 rfl (lv_at hl 0 rfl) ?_
  refine lv_if_lt hx hb jd_can_1 (by decide) (tgt := 15) (fun h => ?_) (fun h => ?_)
  · refine lv_iconst (v := 0) hx hb jd_can_15 (by decide) ?_
    exact fin 0 (Or.inl rfl) (by unfold j_can; rw [if_pos h])
  · refine lv_iload_n hx hb jd_can_4 rfl (lv_at hl 0 rfl) ?_
    refine lv_sipush hx hb jd_can_5 rfl ?_
    refine lv_icmp_gt hx hb jd_can_8 (by decide) (tgt := 15) (fun h2 => ?_) (fun h2 => ?_)
    · refine lv_iconst (v := 0) hx hb jd_can_15 (by decide) ?_
      exact fin 0 (Or.inl rfl) (by unfold j_can; rw [if_neg h]; exact (if_pos h2).symm)
    · refine lv_iconst (v := 1) hx hb jd_can_11 (by decide) ?_
      refine lv_goto hx hb jd_can_12 (by decide) (tgt := 16) ?_
      exact fin 1 (Or.inr rfl) (by unfold j_can; rw [if_neg h]; exact (if_neg h2).symm)

theorem j_inc {j : Nat} (h : j < 1000) : nI j + Int32.ofInt 1 = nI (j + 1) := by
  have e : (Int32.ofInt 1).toInt = 1 := by decide
  refine Int32.toInt_inj.mp ?_
  rw [Jvm.Kit.i32_add (by rw [nI_toInt (by omega), e]; omega) (by rw [nI_toInt (by omega), e]; omega), nI_toInt (by omega), nI_toInt (by omega), e]
  omega
theorem j_by {i : Nat} (hi : i < 5) : js_by.getD i [] = (xs_by.getD i []).map nI := by
  have : ∀ i, i < 5 → js_by.getD i [] = (xs_by.getD i []).map nI := by decide +kernel
  exact this i hi
theorem j_lb {i : Nat} (hi : i < 5) : js_len.getD i 0 = (xs_by.getD i []).length := by
  have : ∀ i, i < 5 → js_len.getD i 0 = (xs_by.getD i []).length := by decide +kernel
  exact this i hi
theorem j_128 {i : Nat} (hi : i < 5) : ∀ b ∈ xs_by.getD i [], b < 128 := by
  have : ∀ i, i < 5 → ∀ b ∈ xs_by.getD i [], b < 128 := by decide +kernel
  exact this i hi
theorem j_pos {i : Nat} (hi : i < 5) : 0 < (xs_by.getD i []).length := by
  have : ∀ i, i < 5 → 0 < (xs_by.getD i []).length := by decide +kernel
  exact this i hi
theorem j_eq {b : Nat} (hb : b < 128) {ch : Int32} (h0 : ¬ ch < 0) (h1 : ¬ 255 < ch) : nI b = ch.toInt8.toInt32 ↔ ch = nI b := by
  have e1 : ¬ ch.toInt < 0 := fun z => h0 (i32_lt0.mpr z)
  have e2 : ¬ (255 : Int) < ch.toInt := fun z => h1 (Int32.lt_iff_toInt_lt.mpr (by rw [show (255 : Int32).toInt = 255 by decide]; exact z))
  have e3 : (nI b).toInt = b := nI_toInt (by omega)
  have e4 : (ch.toInt8.toInt32).toInt = ch.toInt.bmod (2 ^ 8) := by rw [Int8.toInt_toInt32, Int32.toInt_toInt8]
  rw [← Int32.toInt_inj, ← Int32.toInt_inj, e3, e4, Int.bmod_def]
  omega

set_option maxHeartbeats 4000000 in
theorem jm_ixC (l : Launch) (adK adV : Nat → Nat) (sz : Nat) (i : Nat) (hi : i < 5) (ch : Int32) (h0 : ¬ ch < 0) (h1 : ¬ 255 < ch) : jM l jy_ixC prog_19_method_23_code 6 (some .int) 1 [.ref (adV i), .int ch, .int 0, .int (nI (js_len.getD i 0))] adK adV sz (xs_ix i ch) := by
  refine Met.ofW (cc := prog_19_method_23_code) (maxL := 6) (ret := some .int) (by decide) rfl ?_
  intro p e s m args below meth c s₁ B hml hv
  obtain ⟨rfl, hsz, hE, hZ⟩ := hv
  have hx := B.exec
  have hb := B.bytes
  have hr := B.returns
  have hts0 := atoms_spec (ws := jw_ixC) B.pre
  have hts : ∀ w ∈ xe_T, w.before _ s = true := fun w hw => hts0 w (List.mem_cons_of_mem _ hw)
  have hown : s.vm.findClass "java/lang/StringLatin1" = some m.cls := findClass_of_methodNamed B.named
  have hlocks := B.notSynchronized
  subst hsz
  generalize hAe : va_A [] s.heap.size = A at hE hZ ⊢
  have hA : ∀ q : Nat, s.heap.size ≤ q → A q := fun q h => by rw [← hAe]; exact Or.inr h
  have hS : va_S A s.heap s.heap [] := va_S.rf
  have hl := lv_entry ([.ref (adV i), .int ch, .int 0, .int (nI (js_len.getD i 0))]) (n := 6) (Nat.le_of_ble_eq_true rfl)
  rw [lg_entry_eq]
  generalize (lg_sl ([.ref (adV i), .int ch, .int 0, .int (nI (js_len.getD i 0))]) ++ List.replicate (6 - (lg_sl ([.ref (adV i), .int ch, .int 0, .int (nI (js_len.getD i 0))])).length) Slot.unset).toArray = ls at hl ⊢
  have hl : lv_has ls 6 [(0, .ref (adV i)), (1, .int ch), (2, .int 0), (3, .int (nI (js_len.getD i 0)))] := hl
  have hlen := j_lb hi
  have h11 := xs_by_len i hi
  have loop : ∀ (n j : Nat) (ls : Array Slot), j + n = (xs_by.getD i []).length → lv_has ls 6 [(5, .int (nI j)), (4, .int ch.toInt8.toInt32), (0, .ref (adV i)), (1, .int ch), (2, .int 0), (3, .int (nI (js_len.getD i 0)))] → xs_ix i ch = xs_ixF ch ((xs_by.getD i []).drop j) j →
      W p l e (headSpec (jw_ixC) { frames := 1, cells := 0, slots := 0, locals := 64 * 1 }).room s m ([.ref (adV i), .int ch, .int 0, .int (nI (js_len.getD i 0))] : List Value).toArray below meth c s.heap [] 0 0 (MQ below (va_Qi (fun (z : Int32) (_ : Unit) => z = xs_ix i ch) (fun _ _ => True) A) ([.ref (adV i), .int ch, .int 0, .int (nI (js_len.getD i 0))] : List Value).toArray s 0 0 A) (F0 m 7 ls []) := by
    intro n
    induction n with
    | zero =>
      intro j ls hj hl hinv
      refine lv_iload hx hb jd_ixC_7 (lv_at hl 0 rfl) ?_
      refine lv_iload_n hx hb jd_ixC_9 rfl (lv_at hl 5 rfl) ?_
      refine lv_icmp_ge hx hb jd_ixC_10 (by decide) (tgt := 31) (fun _ => ?_) (fun h => absurd ?_ h)
      · refine lv_iconst (v := -1) hx hb jd_ixC_31 (by decide) ?_
        refine W.iret (v := -1) hx hb hr (fun t ht hW => ⟨⟨-1, (), rfl, ?_, trivial⟩, hS.F ht⟩) hS.2.2 jd_ixC_32 hlocks
        rw [hinv, List.drop_eq_nil_iff.mpr (by omega)]
        rfl
      · rw [Int32.le_iff_toInt_le, nI_toInt (by omega), nI_toInt (by omega)]
        omega
    | succ n ih =>
      intro j ls hj hl hinv
      obtain ⟨b, hb1⟩ : ∃ b, (xs_by.getD i [])[j]? = some b := ⟨_, List.getElem?_eq_getElem (by omega)⟩
      have hd : (xs_by.getD i []).drop j = b :: (xs_by.getD i []).drop (j + 1) := by
        obtain ⟨q1, q2⟩ := List.getElem?_eq_some_iff.mp hb1
        rw [List.drop_eq_getElem_cons q1, q2]
      have hb128 := j_128 hi b (List.mem_of_getElem? hb1)
      refine lv_iload hx hb jd_ixC_7 (lv_at hl 0 rfl) ?_
      refine lv_iload_n hx hb jd_ixC_9 rfl (lv_at hl 5 rfl) ?_
      refine lv_icmp_ge hx hb jd_ixC_10 (by decide) (tgt := 31) (fun h => absurd h ?_) (fun _ => ?_)
      · rw [Int32.le_iff_toInt_le, nI_toInt (by omega), nI_toInt (by omega)]
        omega
      · refine lv_aload_n hx hb jd_ixC_13 rfl (lv_at hl 2 rfl) ?_
        refine lv_iload hx hb jd_ixC_14 (lv_at hl 0 rfl) ?_
        refine va_tb (v := .int (nI b)) hx hb (hE.1 i hi).2.2.2 hS (i := nI j) ?_ ?_ jd_ixC_16 ?_
        · exact e_clamp (by rw [nI_toInt (by omega)]; omega) (by rw [nI_toInt (by omega)]; omega)
        · have ec : (nI j).toNatClampNeg = j := by
            show (nI j).toInt.toNat = j
            rw [nI_toInt (by omega)]
            omega
          show Value.int ((js_by.getD i []).getD (nI j).toNatClampNeg 0) = _
          rw [ec, j_by hi, List.getD_eq_getElem?_getD, List.getElem?_map, hb1]
          rfl
        · refine lv_iload hx hb jd_ixC_17 (lv_at hl 1 rfl) ?_
          refine lv_icmp_ne hx hb jd_ixC_19 (by decide) (tgt := 25) (fun hne => ?_) (fun he => ?_)
          · refine lv_iinc (v := nI (j + 1)) hx hb jd_ixC_25 hl (k := 0) rfl ?_ (by decide) rfl (fun ls2 hl2 => ?_)
            · exact j_inc (by omega)
            · refine lv_goto hx hb jd_ixC_28 (by decide) (tgt := 7) ?_
              refine ih (j + 1) ls2 (by omega) hl2 ?_
              rw [hinv, hd]
              show (if ch = nI b then nI j else xs_ixF ch ((xs_by.getD i []).drop (j + 1)) (j + 1)) = _
              rw [if_neg (fun z => hne ((j_eq hb128 h0 h1).mpr z))]
          · refine lv_iload hx hb jd_ixC_22 (lv_at hl 0 rfl) ?_
            refine W.iret (v := nI j) hx hb hr (fun t ht hW => ⟨⟨nI j, (), rfl, ?_, trivial⟩, hS.F ht⟩) hS.2.2 jd_ixC_24 hlocks
            rw [hinv, hd]
            show nI j = (if ch = nI b then nI j else _)
            have he2 : nI b = ch.toInt8.toInt32 := he
            rw [if_pos ((j_eq hb128 h0 h1).mp he2)]
  refine lv_iload_n hx hb jd_ixC_0 rfl (lv_at hl 1 rfl) ?_
  refine lv_i2b (v := ch.toInt8.toInt32) hx hb jd_ixC_1 rfl ?_
  refine lv_istore hx hb jd_ixC_2 hl (by decide) rfl (fun ls2 hl2 => ?_)
  refine lv_iload_n hx hb jd_ixC_4 rfl (lv_at hl2 3 rfl) ?_
  refine lv_istore hx hb jd_ixC_5 hl2 (by decide) rfl (fun ls3 hl3 => ?_)
  exact loop _ 0 ls3 (Nat.zero_add _) hl3 (by rw [List.drop_zero]; rfl)

set_option maxHeartbeats 4000000 in
theorem jm_ixL (l : Launch) (adK adV : Nat → Nat) (sz : Nat) (i : Nat) (hi : i < 5) (ch : Int32) : jM l jy_ixL prog_19_method_22_code 4 (some .int) 2 [.ref (adV i), .int ch, .int 0, .int (nI (js_len.getD i 0))] adK adV sz (xs_ix i ch) := by
  refine Met.ofW (cc := prog_19_method_22_code) (maxL := 4) (ret := some .int) (by decide) rfl ?_
  intro p e s m args below meth c s₁ B hml hv
  obtain ⟨rfl, hsz, hE, hZ⟩ := hv
  have hx := B.exec
  have hb := B.bytes
  have hr := B.returns
  have hts0 := atoms_spec (ws := jw_ixL) B.pre
  have hts : ∀ w ∈ xe_T, w.before _ s = true := fun w hw => hts0 w (List.mem_cons_of_mem _ hw)
  have hown : s.vm.findClass "java/lang/StringLatin1" = some m.cls := findClass_of_methodNamed B.named
  have hlocks := B.notSynchronized
  subst hsz
  generalize hAe : va_A [] s.heap.size = A at hE hZ ⊢
  have hA : ∀ q : Nat, s.heap.size ≤ q → A q := fun q h => by rw [← hAe]; exact Or.inr h
  have hS : va_S A s.heap s.heap [] := va_S.rf
  have hl := lv_entry ([.ref (adV i), .int ch, .int 0, .int (nI (js_len.getD i 0))]) (n := 4) (Nat.le_of_ble_eq_true rfl)
  rw [lg_entry_eq]
  generalize (lg_sl ([.ref (adV i), .int ch, .int 0, .int (nI (js_len.getD i 0))]) ++ List.replicate (4 - (lg_sl ([.ref (adV i), .int ch, .int 0, .int (nI (js_len.getD i 0))])).length) Slot.unset).toArray = ls at hl ⊢
  have hl : lv_has ls 4 [(0, .ref (adV i)), (1, .int ch), (2, .int 0), (3, .int (nI (js_len.getD i 0)))] := hl
  have hlen := j_lb hi
  have h11 := xs_by_len i hi
  have hpos := j_pos hi
  refine lv_iload_n hx hb jd_ixL_0 rfl (lv_at hl 1 rfl) ?_
  refine va_calli (va_runS (As := [.int ch]) (rest := []) ⟨hx, hb, hml, hown, hts⟩ (jm_can l adK adV s.heap.size ch) (va_cwS (own := "java/lang/StringLatin1") (ws' := xe_T) 1 hts (xe_GT (fun w hw => by
    rcases List.mem_append.mp hw with hw | hw
    · simp only [List.mem_cons, List.not_mem_nil, or_false] at hw
      rcases hw with rfl | rfl | rfl
      · exact jx_88
      · exact jx_t_can
      · exact jx_n_L1
    · exact j_good jx_c_can w hw)) rfl rfl rfl ⟨by decide, by decide, by decide +kernel⟩ ⟨Nat.le_of_ble_eq_true rfl, Nat.le_of_ble_eq_true rfl⟩) ⟨j_blind, j_pre hS hA hE hZ⟩ rfl rfl hl.1 rfl (lv_room (Nat.le_of_ble_eq_true rfl)) jd_ixL_1 ⟨Nat.zero_le _, Nat.zero_le _⟩) hS (fun q _ h => by
    rcases h with ⟨k, e, h⟩ | h
    · cases h
    · exact hA q (Nat.le_trans hS.1 h)) (fun q h => by
    rcases h with ⟨k, e, h⟩ | h
    · cases h
    · exact hA q (Nat.le_trans hS.1 h)) (fun r u t H1 locs ht hvm hw hB hz1 hk1 hS => ?_)
  subst hw
  have none1 : (ch < 0 ∨ 255 < ch) → xs_ix i ch = -1 := by
    intro hz
    have all : ∀ (l : List Nat) (k : Nat), (∀ b ∈ l, b < 128) → xs_ixF ch l k = -1 := by
      intro l
      induction l with
      | nil => intro k _; rfl
      | cons b l ih =>
        intro k hb
        have hb1 := hb b (List.mem_cons_self ..)
        show (if ch = nI b then nI k else xs_ixF ch l (k + 1)) = -1
        rw [if_neg, ih (k + 1) (fun b' h' => hb b' (List.mem_cons_of_mem _ h'))]
        intro e
        rcases hz with hz | hz
        · have := i32_lt0.mp hz
          rw [e, nI_toInt (by omega)] at this
          omega
        · have := Int32.lt_iff_toInt_lt.mp hz
          rw [e, nI_toInt (by omega), show (255 : Int32).toInt = 255 by decide] at this
          omega
    exact all _ 0 (j_128 hi)
  refine lv_if_ne hx hb jd_ixL_4 (by decide) (tgt := 9) (fun hne => ?_) (fun he => ?_)
  · have h0 : ¬ ch < 0 := fun z => hne (by unfold j_can; rw [if_pos z])
    have h1 : ¬ 255 < ch := fun z => hne (by unfold j_can; rw [if_neg h0, if_pos z])
    refine lv_iload_n hx hb jd_ixL_9 rfl (lv_at hl 2 rfl) ?_
    refine lv_iconst (v := 0) hx hb jd_ixL_10 (by decide) ?_
    refine va_mmax hx hb (by rw [hml]; exact hl.1.symm) hown (hts _ jx_92) (hts _ xw_max.1) (hts _ xw_math.1) (hts _ xw_max.2) (Nat.le_of_ble_eq_true rfl) (Nat.le_of_ble_eq_true rfl) (Nat.zero_le _) (Nat.zero_le _) jd_ixL_11 ?_
    refine lv_istore_n hx hb jd_ixL_14 rfl hl (by decide) rfl (fun ls2 hl2 => ?_)
    refine lv_iload_n hx hb jd_ixL_15 rfl (lv_at hl2 3 rfl) ?_
    refine lv_aload_n hx hb jd_ixL_16 rfl (lv_at hl2 1 rfl) ?_
    refine va_tlen (v := nI (js_len.getD i 0)) hx hb (hE.1 i hi).2.2.2 hS rfl jd_ixL_17 ?_
    refine va_mmin hx hb (by rw [hml]; exact hl2.1.symm) hown (hts _ jx_38) (hts _ xw_min.1) (hts _ xw_math.1) (hts _ xw_min.2) (Nat.le_of_ble_eq_true rfl) (Nat.le_of_ble_eq_true rfl) (Nat.zero_le _) (Nat.zero_le _) jd_ixL_18 ?_
    refine W.eq (g2 := F0 m 21 ls2 [.int (nI (js_len.getD i 0))]) (by rw [ite_self]) ?_
    refine lv_istore_n (x := nI (js_len.getD i 0)) hx hb jd_ixL_21 rfl hl2 (by decide) rfl (fun ls3 hl3 => ?_)
    have hl := hl3
    refine lv_iload_n hx hb jd_ixL_22 rfl (lv_at hl 1 rfl) ?_
    refine lv_iload_n hx hb jd_ixL_23 rfl (lv_at hl 0 rfl) ?_
    refine lv_icmp_lt hx hb jd_ixL_24 (by decide) (tgt := 29) (fun _ => ?_) (fun h => absurd ?_ h)
    · refine lv_aload_n hx hb jd_ixL_29 rfl (lv_at hl 2 rfl) ?_
      refine lv_iload_n hx hb jd_ixL_30 rfl (lv_at hl 3 rfl) ?_
      refine lv_iload_n hx hb jd_ixL_31 rfl (lv_at hl 1 rfl) ?_
      refine lv_iload_n hx hb jd_ixL_32 rfl (lv_at hl 0 rfl) ?_
      refine va_calli (va_runS (As := [.ref (adV i), .int ch, .int 0, .int (nI (js_len.getD i 0))]) (rest := []) ⟨hx, hb, hml, hown, hts⟩ (jm_ixC l adK adV _ i hi ch h0 h1) (va_cwS (own := "java/lang/StringLatin1") (ws' := xe_T) 4 hts (xe_GT (fun w hw => by
        rcases List.mem_append.mp hw with hw | hw
        · simp only [List.mem_cons, List.not_mem_nil, or_false] at hw
          rcases hw with rfl | rfl | rfl
          · exact jx_95
          · exact jx_t_ixC
          · exact jx_n_L1
        · exact j_good jx_c_ixC w hw)) rfl rfl rfl ⟨by decide, by decide, by decide +kernel⟩ ⟨Nat.le_of_ble_eq_true rfl, Nat.le_of_ble_eq_true rfl⟩) ⟨j_blind, j_pre hS hA hE hZ⟩ rfl rfl hl.1 rfl (lv_room (Nat.le_of_ble_eq_true rfl)) jd_ixL_33 ⟨Nat.zero_le _, Nat.zero_le _⟩) hS (fun q _ h => by
        rcases h with ⟨k, e, h⟩ | h
        · cases h
        · exact hA q (Nat.le_trans hS.1 h)) (fun q h => by
        rcases h with ⟨k, e, h⟩ | h
        · cases h
        · exact hA q (Nat.le_trans hS.1 h)) (fun r u t H1 locs ht hvm hw hB hz1 hk1 hS => ?_)
      subst hw
      exact W.iret (v := xs_ix i ch) hx hb hr (fun t ht hW => ⟨⟨xs_ix i ch, (), rfl, rfl, trivial⟩, hS.F ht⟩) hS.2.2 jd_ixL_36 hlocks
    · show (0 : Int32) < nI (js_len.getD i 0)
      rw [i32_gt0, nI_toInt (by omega)]
      omega
  · have hz : ch < 0 ∨ 255 < ch := by
      by_cases h0 : ch < 0
      · exact Or.inl h0
      · by_cases h1 : 255 < ch
        · exact Or.inr h1
        · have he : j_can ch = 0 := he
          unfold j_can at he
          rw [if_neg h0, if_neg h1] at he
          cases he
    refine lv_iconst (v := -1) hx hb jd_ixL_7 (by decide) ?_
    exact W.iret (v := -1) hx hb hr (fun t ht hW => ⟨⟨-1, (), rfl, (none1 hz).symm, trivial⟩, hS.F ht⟩) hS.2.2 jd_ixL_8 hlocks

set_option maxHeartbeats 4000000 in
theorem jm_ixII (l : Launch) (adK adV : Nat → Nat) (sz : Nat) (i : Nat) (hi : i < 5) (ch : Int32) : jM l jy_ixII prog_18_method_80_code 3 (some .int) 3 [.ref (adK i), .int ch, .int 0] adK adV sz (xs_ix i ch) := by
  refine Met.ofW (cc := prog_18_method_80_code) (maxL := 3) (ret := some .int) (by decide) rfl ?_
  intro p e s m args below meth c s₁ B hml hv
  obtain ⟨rfl, hsz, hE, hZ⟩ := hv
  have hx := B.exec
  have hb := B.bytes
  have hr := B.returns
  have hts0 := atoms_spec (ws := jw_ixII) B.pre
  have hts : ∀ w ∈ xe_T, w.before _ s = true := fun w hw => hts0 w (List.mem_cons_of_mem _ hw)
  have hown : s.vm.findClass "java/lang/String" = some m.cls := findClass_of_methodNamed B.named
  have hlocks := B.notSynchronized
  subst hsz
  generalize hAe : va_A [] s.heap.size = A at hE hZ ⊢
  have hA : ∀ q : Nat, s.heap.size ≤ q → A q := fun q h => by rw [← hAe]; exact Or.inr h
  have hS : va_S A s.heap s.heap [] := va_S.rf
  have hl := lv_entry ([.ref (adK i), .int ch, .int 0]) (n := 3) (Nat.le_of_ble_eq_true rfl)
  rw [lg_entry_eq]
  generalize (lg_sl ([.ref (adK i), .int ch, .int 0]) ++ List.replicate (3 - (lg_sl ([.ref (adK i), .int ch, .int 0])).length) Slot.unset).toArray = ls at hl ⊢
  have hl : lv_has ls 3 [(0, .ref (adK i)), (1, .int ch), (2, .int 0)] := hl
  refine lv_aload_n hx hb jd_ixII_0 rfl (lv_at hl 0 rfl) ?_
  refine va_calli (va_runV (As := []) (rest := []) ⟨hx, hb, hml, hown, hts⟩ (jm_isL l adK adV _ i hi) (cwV (C := "java/lang/String") (ws' := xe_T) 0 hts (xe_GT (fun w hw => by
    rcases List.mem_append.mp hw with hw | hw
    · simp only [List.mem_cons, List.not_mem_nil, or_false] at hw
      rcases hw with rfl | rfl | rfl | rfl
      · exact jx_492
      · exact jx_i_isL
      · exact jx_s_isL
      · exact jx_n_S
    · exact j_good jx_c_isL w hw)) rfl rfl rfl (by decide +kernel) ⟨Nat.le_of_ble_eq_true rfl, Nat.le_of_ble_eq_true rfl⟩) ⟨j_blind, vk_recv hE hi hS, j_pre hS hA hE hZ⟩ rfl rfl hl.1 rfl (lv_room (Nat.le_of_ble_eq_true rfl)) jd_ixII_1 ⟨Nat.zero_le _, Nat.zero_le _⟩) hS (fun q _ h => by
    rcases h with ⟨k, e, h⟩ | h
    · cases h
    · exact hA q (Nat.le_trans hS.1 h)) (fun q h => by
    rcases h with ⟨k, e, h⟩ | h
    · cases h
    · exact hA q (Nat.le_trans hS.1 h)) (fun r u t H1 locs ht hvm hw hB hz1 hk1 hS => ?_)
  subst hw
  refine lv_if_eq hx hb jd_ixII_4 (by decide) (tgt := 23) (fun h => absurd h (by decide)) (fun _ => ?_)
  refine lv_aload_n hx hb jd_ixII_7 rfl (lv_at hl 0 rfl) ?_
  refine vk_getf hx hb (hE.1 i hi).2.2.1 hS hown (hts _ jx_f9) (fun _ h => h) jd_ixII_8 ?_
  refine lv_iload_n hx hb jd_ixII_11 rfl (lv_at hl 1 rfl) ?_
  refine lv_iload_n hx hb jd_ixII_12 rfl (lv_at hl 2 rfl) ?_
  refine lv_aload_n hx hb jd_ixII_13 rfl (lv_at hl 0 rfl) ?_
  refine va_calli (va_runV (As := []) (rest := [.int 0, .int ch, .ref (adV i)]) ⟨hx, hb, hml, hown, hts⟩ (jm_length l adK adV _ i hi) (cwV (C := "java/lang/String") (ws' := xe_T) 0 hts (xe_GT (fun w hw => by
    rcases List.mem_append.mp hw with hw | hw
    · simp only [List.mem_cons, List.not_mem_nil, or_false] at hw
      rcases hw with rfl | rfl | rfl | rfl
      · exact jx_505
      · exact jx_i_length
      · exact jx_s_length
      · exact jx_n_S
    · exact j_good jx_c_length w hw)) rfl rfl rfl (by decide +kernel) ⟨Nat.le_of_ble_eq_true rfl, Nat.le_of_ble_eq_true rfl⟩) ⟨j_blind, vk_recv hE hi hS, j_pre hS hA hE hZ⟩ rfl rfl hl.1 rfl (lv_room (Nat.le_of_ble_eq_true rfl)) jd_ixII_14 ⟨Nat.zero_le _, Nat.zero_le _⟩) hS (fun q _ h => by
    rcases h with ⟨k, e, h⟩ | h
    · cases h
    · exact hA q (Nat.le_trans hS.1 h)) (fun q h => by
    rcases h with ⟨k, e, h⟩ | h
    · cases h
    · exact hA q (Nat.le_trans hS.1 h)) (fun r u t H1 locs ht hvm hw hB hz1 hk1 hS => ?_)
  subst hw
  refine va_calli (va_runS (As := [.ref (adV i), .int ch, .int 0, .int (nI (js_len.getD i 0))]) (rest := []) ⟨hx, hb, hml, hown, hts⟩ (jm_ixL l adK adV _ i hi ch) (va_cwS (own := "java/lang/String") (ws' := xe_T) 4 hts (xe_GT (fun w hw => by
    rcases List.mem_append.mp hw with hw | hw
    · simp only [List.mem_cons, List.not_mem_nil, or_false] at hw
      rcases hw with rfl | rfl | rfl
      · exact jx_637
      · exact jx_t_ixL
      · exact jx_n_L1
    · exact j_good jx_c_ixL w hw)) rfl rfl rfl ⟨by decide, by decide, by decide +kernel⟩ ⟨Nat.le_of_ble_eq_true rfl, Nat.le_of_ble_eq_true rfl⟩) ⟨j_blind, j_pre hS hA hE hZ⟩ rfl rfl hl.1 rfl (lv_room (Nat.le_of_ble_eq_true rfl)) jd_ixII_17 ⟨Nat.zero_le _, Nat.zero_le _⟩) hS (fun q _ h => by
    rcases h with ⟨k, e, h⟩ | h
    · cases h
    · exact hA q (Nat.le_trans hS.1 h)) (fun q h => by
    rcases h with ⟨k, e, h⟩ | h
    · cases h
    · exact hA q (Nat.le_trans hS.1 h)) (fun r u t H1 locs ht hvm hw hB hz1 hk1 hS => ?_)
  subst hw
  refine lv_goto hx hb jd_ixII_20 (by decide) (tgt := 36) ?_
  exact W.iret (v := xs_ix i ch) hx hb hr (fun t ht hW => ⟨⟨xs_ix i ch, (), rfl, rfl, trivial⟩, hS.F ht⟩) hS.2.2 jd_ixII_36 hlocks

set_option maxHeartbeats 4000000 in
theorem jm_ixI (l : Launch) (adK adV : Nat → Nat) (sz : Nat) (i : Nat) (hi : i < 5) (ch : Int32) : jM l jy_ixI prog_18_method_79_code 2 (some .int) 4 [.ref (adK i), .int ch] adK adV sz (xs_ix i ch) := by
  refine Met.ofW (cc := prog_18_method_79_code) (maxL := 2) (ret := some .int) (by decide) rfl ?_
  intro p e s m args below meth c s₁ B hml hv
  obtain ⟨rfl, hsz, hE, hZ⟩ := hv
  have hx := B.exec
  have hb := B.bytes
  have hr := B.returns
  have hts0 := atoms_spec (ws := jw_ixI) B.pre
  have hts : ∀ w ∈ xe_T, w.before _ s = true := fun w hw => hts0 w (List.mem_cons_of_mem _ hw)
  have hown : s.vm.findClass "java/lang/String" = some m.cls := findClass_of_methodNamed B.named
  have hlocks := B.notSynchronized
  subst hsz
  generalize hAe : va_A [] s.heap.size = A at hE hZ ⊢
  have hA : ∀ q : Nat, s.heap.size ≤ q → A q := fun q h => by rw [← hAe]; exact Or.inr h
  have hS : va_S A s.heap s.heap [] := va_S.rf
  have hl := lv_entry ([.ref (adK i), .int ch]) (n := 2) (Nat.le_of_ble_eq_true rfl)
  rw [lg_entry_eq]
  generalize (lg_sl ([.ref (adK i), .int ch]) ++ List.replicate (2 - (lg_sl ([.ref (adK i), .int ch])).length) Slot.unset).toArray = ls at hl ⊢
  have hl : lv_has ls 2 [(0, .ref (adK i)), (1, .int ch)] := hl
  refine lv_aload_n hx hb jd_ixI_0 rfl (lv_at hl 0 rfl) ?_
  refine lv_iload_n hx hb jd_ixI_1 rfl (lv_at hl 1 rfl) ?_
  refine lv_iconst (v := 0) hx hb jd_ixI_2 (by decide) ?_
  refine va_calli (va_runV (As := [.int ch, .int 0]) (rest := []) ⟨hx, hb, hml, hown, hts⟩ (jm_ixII l adK adV _ i hi ch) (cwV (C := "java/lang/String") (ws' := xe_T) 2 hts (xe_GT (fun w hw => by
    rcases List.mem_append.mp hw with hw | hw
    · simp only [List.mem_cons, List.not_mem_nil, or_false] at hw
      rcases hw with rfl | rfl | rfl | rfl
      · exact jx_633
      · exact jx_i_ixII
      · exact jx_s_ixII
      · exact jx_n_S
    · exact j_good jx_c_ixII w hw)) rfl rfl rfl (by decide +kernel) ⟨Nat.le_of_ble_eq_true rfl, Nat.le_of_ble_eq_true rfl⟩) ⟨j_blind, vk_recv hE hi hS, j_pre hS hA hE hZ⟩ rfl rfl hl.1 rfl (lv_room (Nat.le_of_ble_eq_true rfl)) jd_ixI_3 ⟨Nat.zero_le _, Nat.zero_le _⟩) hS (fun q _ h => by
    rcases h with ⟨k, e, h⟩ | h
    · cases h
    · exact hA q (Nat.le_trans hS.1 h)) (fun q h => by
    rcases h with ⟨k, e, h⟩ | h
    · cases h
    · exact hA q (Nat.le_trans hS.1 h)) (fun r u t H1 locs ht hvm hw hB hz1 hk1 hS => ?_)
  subst hw
  exact W.iret (v := xs_ix i ch) hx hb hr (fun t ht hW => ⟨⟨xs_ix i ch, (), rfl, rfl, trivial⟩, hS.F ht⟩) hS.2.2 jd_ixI_6 hlocks

set_option maxHeartbeats 4000000 in
theorem jm_bc (l : Launch) (adK adV : Nat → Nat) (sz : Nat) (x : Int32) : jM l jy_bc prog_16_method_49_code 1 (some .int) 0 [.int x] adK adV sz (xs_bc x) := by
  refine Met.ofW (cc := prog_16_method_49_code) (maxL := 1) (ret := some .int) (by decide) rfl ?_
  intro p e s m args below meth c s₁ B hml hv
  obtain ⟨rfl, hsz, hE, hZ⟩ := hv
  have hx := B.exec
  have hb := B.bytes
  have hr := B.returns
  have hts0 := atoms_spec (ws := jw_bc) B.pre
  have hts : ∀ w ∈ xe_T, w.before _ s = true := fun w hw => hts0 w (List.mem_cons_of_mem _ hw)
  have hown : s.vm.findClass "java/lang/Integer" = some m.cls := findClass_of_methodNamed B.named
  have hlocks := B.notSynchronized
  subst hsz
  generalize hAe : va_A [] s.heap.size = A at hE hZ ⊢
  have hA : ∀ q : Nat, s.heap.size ≤ q → A q := fun q h => by rw [← hAe]; exact Or.inr h
  have hS : va_S A s.heap s.heap [] := va_S.rf
  have hl := lv_entry ([.int x]) (n := 1) (Nat.le_of_ble_eq_true rfl)
  rw [lg_entry_eq]
  generalize (lg_sl ([.int x]) ++ List.replicate (1 - (lg_sl ([.int x])).length) Slot.unset).toArray = ls at hl ⊢
  have hl : lv_has ls 1 [(0, .int x)] := hl
  refine lv_iload_n hx hb jd_bc_0 rfl (lv_at hl 0 rfl) ?_
  refine lv_iload_n hx hb jd_bc_1 rfl (lv_at hl 0 rfl) ?_
  refine lv_iconst (v := 1) hx hb jd_bc_2 (by decide) ?_
  refine lv_iushr hx hb jd_bc_3 rfl ?_
  refine lv_ldcw hx hb hown (hts _ jx_k265) jd_bc_4 ?_
  refine lv_iand hx hb jd_bc_7 ?_
  refine lv_isub hx hb jd_bc_8 ?_
  refine lv_istore_n (x := xs_bc1 x) hx hb jd_bc_9 rfl hl (by decide) rfl (fun ls hl => ?_)
  refine lv_iload_n hx hb jd_bc_10 rfl (lv_at hl 0 rfl) ?_
  refine lv_ldcw hx hb hown (hts _ jx_k266) jd_bc_11 ?_
  refine lv_iand hx hb jd_bc_14 ?_
  refine lv_iload_n hx hb jd_bc_15 rfl (lv_at hl 0 rfl) ?_
  refine lv_iconst (v := 2) hx hb jd_bc_16 (by decide) ?_
  refine lv_iushr hx hb jd_bc_17 rfl ?_
  refine lv_ldcw hx hb hown (hts _ jx_k266) jd_bc_18 ?_
  refine lv_iand hx hb jd_bc_21 ?_
  refine lv_iadd hx hb jd_bc_22 ?_
  refine lv_istore_n (x := xs_bc2 (xs_bc1 x)) hx hb jd_bc_23 rfl hl (by decide) rfl (fun ls hl => ?_)
  refine lv_iload_n hx hb jd_bc_24 rfl (lv_at hl 0 rfl) ?_
  refine lv_iload_n hx hb jd_bc_25 rfl (lv_at hl 0 rfl) ?_
  refine lv_iconst (v := 4) hx hb jd_bc_26 (by decide) ?_
  refine lv_iushr hx hb jd_bc_27 rfl ?_
  refine lv_iadd hx hb jd_bc_28 ?_
  refine lv_ldcw hx hb hown (hts _ jx_k267) jd_bc_29 ?_
  refine lv_iand hx hb jd_bc_32 ?_
  refine lv_istore_n (x := xs_bc3 (xs_bc2 (xs_bc1 x))) hx hb jd_bc_33 rfl hl (by decide) rfl (fun ls hl => ?_)
  refine lv_iload_n hx hb jd_bc_34 rfl (lv_at hl 0 rfl) ?_
  refine lv_iload_n hx hb jd_bc_35 rfl (lv_at hl 0 rfl) ?_
  refine lv_bipush (v := 8) hx hb jd_bc_36 (by decide) ?_
  refine lv_iushr hx hb jd_bc_38 rfl ?_
  refine lv_iadd hx hb jd_bc_39 ?_
  refine lv_istore_n (x := xs_bc4 (xs_bc3 (xs_bc2 (xs_bc1 x)))) hx hb jd_bc_40 rfl hl (by decide) rfl (fun ls hl => ?_)
  refine lv_iload_n hx hb jd_bc_41 rfl (lv_at hl 0 rfl) ?_
  refine lv_iload_n hx hb jd_bc_42 rfl (lv_at hl 0 rfl) ?_
  refine lv_bipush (v := 16) hx hb jd_bc_43 (by decide) ?_
  refine lv_iushr hx hb jd_bc_45 rfl ?_
  refine lv_iadd hx hb jd_bc_46 ?_
  refine lv_istore_n (x := xs_bc5 (xs_bc4 (xs_bc3 (xs_bc2 (xs_bc1 x))))) hx hb jd_bc_47 rfl hl (by decide) rfl (fun ls hl => ?_)
  refine lv_iload_n hx hb jd_bc_48 rfl (lv_at hl 0 rfl) ?_
  refine lv_bipush (v := 63) hx hb jd_bc_49 (by decide) ?_
  refine lv_iand hx hb jd_bc_51 ?_
  exact W.iret (v := xs_bc x) hx hb hr (fun t ht hW => ⟨⟨xs_bc x, (), rfl, rfl, trivial⟩, hS.F ht⟩) hS.2.2 jd_bc_52 hlocks

