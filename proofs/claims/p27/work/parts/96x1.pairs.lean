section
/-! the tie: rows of twos (printed by wip/e2/t14.py) -/
theorem qacl_0 : xe_look (xc 69) 0 = some (.aload_n 0, 1, 0, 0, 0) := by decide +kernel
theorem qacl_1 : xe_look (xc 69) 1 = some (.getfield 24, 3, 6, 2, 903) := by decide +kernel
theorem qacl_4 : xe_look (xc 69) 4 = some (.aload_n 0, 1, 0, 0, 0) := by decide +kernel
theorem qacl_5 : xe_look (xc 69) 5 = some (.getfield 15, 3, 6, 0, 904) := by decide +kernel
theorem qacl_8 : xe_look (xc 69) 8 = some (.arraylength, 1, 0, 0, 0) := by decide +kernel
theorem qacl_9 : xe_look (xc 69) 9 = some (.if_icmp .lt 5, 3, 0, 0, 0) := by decide +kernel
theorem qacl_12 : xe_look (xc 69) 12 = some (.iconst (-1), 1, 0, 0, 0) := by decide +kernel
theorem qacl_13 : xe_look (xc 69) 13 = some (.ireturn, 1, 0, 0, 0) := by decide +kernel
theorem qacl_14 : xe_look (xc 69) 14 = some (.aload_n 0, 1, 0, 0, 0) := by decide +kernel
theorem qacl_15 : xe_look (xc 69) 15 = some (.getfield 15, 3, 6, 0, 904) := by decide +kernel
theorem qacl_18 : xe_look (xc 69) 18 = some (.aload_n 0, 1, 0, 0, 0) := by decide +kernel
theorem qacl_19 : xe_look (xc 69) 19 = some (.getfield 24, 3, 6, 2, 903) := by decide +kernel
theorem qacl_22 : xe_look (xc 69) 22 = some (.iload_n 1, 1, 0, 0, 0) := by decide +kernel
theorem qacl_23 : xe_look (xc 69) 23 = some (.iastore, 1, 0, 0, 0) := by decide +kernel
theorem qacl_24 : xe_look (xc 69) 24 = some (.aload_n 0, 1, 0, 0, 0) := by decide +kernel
theorem qacl_25 : xe_look (xc 69) 25 = some (.getfield 21, 3, 6, 1, 905) := by decide +kernel
theorem qacl_28 : xe_look (xc 69) 28 = some (.aload_n 0, 1, 0, 0, 0) := by decide +kernel
theorem qacl_29 : xe_look (xc 69) 29 = some (.getfield 24, 3, 6, 2, 903) := by decide +kernel
theorem qacl_32 : xe_look (xc 69) 32 = some (.iload_n 2, 1, 0, 0, 0) := by decide +kernel
theorem qacl_33 : xe_look (xc 69) 33 = some (.iastore, 1, 0, 0, 0) := by decide +kernel
theorem qacl_34 : xe_look (xc 69) 34 = some (.aload_n 0, 1, 0, 0, 0) := by decide +kernel
theorem qacl_35 : xe_look (xc 69) 35 = some (.dup, 1, 0, 0, 0) := by decide +kernel
theorem qacl_36 : xe_look (xc 69) 36 = some (.getfield 24, 3, 6, 2, 903) := by decide +kernel
theorem qacl_39 : xe_look (xc 69) 39 = some (.iconst 1, 1, 0, 0, 0) := by decide +kernel
theorem qacl_40 : xe_look (xc 69) 40 = some (.iadd, 1, 0, 0, 0) := by decide +kernel
theorem qacl_41 : xe_look (xc 69) 41 = some (.putfield 24, 3, 6, 2, 903) := by decide +kernel
theorem qacl_44 : xe_look (xc 69) 44 = some (.aload_n 0, 1, 0, 0, 0) := by decide +kernel
theorem qacl_45 : xe_look (xc 69) 45 = some (.getfield 24, 3, 6, 2, 903) := by decide +kernel
theorem qacl_48 : xe_look (xc 69) 48 = some (.ireturn, 1, 0, 0, 0) := by decide +kernel
theorem qali_0 : xe_look (xc 69) 0 = some (.aload_n 0, 1, 0, 0, 0) := by decide +kernel
theorem qali_1 : xe_look (xc 69) 1 = some (.getfield 24, 3, 6, 2, 903) := by decide +kernel
theorem qali_4 : xe_look (xc 69) 4 = some (.aload_n 0, 1, 0, 0, 0) := by decide +kernel
theorem qali_5 : xe_look (xc 69) 5 = some (.getfield 15, 3, 6, 0, 904) := by decide +kernel
theorem qali_8 : xe_look (xc 69) 8 = some (.arraylength, 1, 0, 0, 0) := by decide +kernel
theorem qali_9 : xe_look (xc 69) 9 = some (.if_icmp .lt 5, 3, 0, 0, 0) := by decide +kernel
theorem qali_12 : xe_look (xc 69) 12 = some (.iconst (-1), 1, 0, 0, 0) := by decide +kernel
theorem qali_13 : xe_look (xc 69) 13 = some (.ireturn, 1, 0, 0, 0) := by decide +kernel
theorem qali_14 : xe_look (xc 69) 14 = some (.aload_n 0, 1, 0, 0, 0) := by decide +kernel
theorem qali_15 : xe_look (xc 69) 15 = some (.getfield 15, 3, 6, 0, 904) := by decide +kernel
theorem qali_18 : xe_look (xc 69) 18 = some (.aload_n 0, 1, 0, 0, 0) := by decide +kernel
theorem qali_19 : xe_look (xc 69) 19 = some (.getfield 24, 3, 6, 2, 903) := by decide +kernel
theorem qali_22 : xe_look (xc 69) 22 = some (.iload_n 1, 1, 0, 0, 0) := by decide +kernel
theorem qali_23 : xe_look (xc 69) 23 = some (.iastore, 1, 0, 0, 0) := by decide +kernel
theorem qali_24 : xe_look (xc 69) 24 = some (.aload_n 0, 1, 0, 0, 0) := by decide +kernel
theorem qali_25 : xe_look (xc 69) 25 = some (.getfield 21, 3, 6, 1, 905) := by decide +kernel
theorem qali_28 : xe_look (xc 69) 28 = some (.aload_n 0, 1, 0, 0, 0) := by decide +kernel
theorem qali_29 : xe_look (xc 69) 29 = some (.getfield 24, 3, 6, 2, 903) := by decide +kernel
theorem qali_32 : xe_look (xc 69) 32 = some (.iload_n 2, 1, 0, 0, 0) := by decide +kernel
theorem qali_33 : xe_look (xc 69) 33 = some (.iastore, 1, 0, 0, 0) := by decide +kernel
theorem qali_34 : xe_look (xc 69) 34 = some (.aload_n 0, 1, 0, 0, 0) := by decide +kernel
theorem qali_35 : xe_look (xc 69) 35 = some (.dup, 1, 0, 0, 0) := by decide +kernel
theorem qali_36 : xe_look (xc 69) 36 = some (.getfield 24, 3, 6, 2, 903) := by decide +kernel
theorem qali_39 : xe_look (xc 69) 39 = some (.iconst 1, 1, 0, 0, 0) := by decide +kernel
theorem qali_40 : xe_look (xc 69) 40 = some (.iadd, 1, 0, 0, 0) := by decide +kernel
theorem qali_41 : xe_look (xc 69) 41 = some (.putfield 24, 3, 6, 2, 903) := by decide +kernel
theorem qali_44 : xe_look (xc 69) 44 = some (.aload_n 0, 1, 0, 0, 0) := by decide +kernel
theorem qali_45 : xe_look (xc 69) 45 = some (.getfield 24, 3, 6, 2, 903) := by decide +kernel
theorem qali_48 : xe_look (xc 69) 48 = some (.ireturn, 1, 0, 0, 0) := by decide +kernel
theorem qdcl_0 : xe_look (xc 71) 0 = some (.iconst 0, 1, 0, 0, 0) := by decide +kernel
theorem qdcl_1 : xe_look (xc 71) 1 = some (.istore_n 2, 1, 0, 0, 0) := by decide +kernel
theorem qdcl_2 : xe_look (xc 71) 2 = some (.iconst 0, 1, 0, 0, 0) := by decide +kernel
theorem qdcl_3 : xe_look (xc 71) 3 = some (.istore_n 3, 1, 0, 0, 0) := by decide +kernel
theorem qdcl_4 : xe_look (xc 71) 4 = some (.iload_n 3, 1, 0, 0, 0) := by decide +kernel
theorem qdcl_5 : xe_look (xc 71) 5 = some (.aload_n 0, 1, 0, 0, 0) := by decide +kernel
theorem qdcl_6 : xe_look (xc 71) 6 = some (.getfield 24, 3, 6, 2, 903) := by decide +kernel
theorem qdcl_9 : xe_look (xc 71) 9 = some (.if_icmp .ge 56, 3, 0, 0, 0) := by decide +kernel
theorem qdcl_12 : xe_look (xc 71) 12 = some (.aload_n 0, 1, 0, 0, 0) := by decide +kernel
theorem qdcl_13 : xe_look (xc 71) 13 = some (.getfield 15, 3, 6, 0, 904) := by decide +kernel
theorem qdcl_16 : xe_look (xc 71) 16 = some (.iload_n 3, 1, 0, 0, 0) := by decide +kernel
theorem qdcl_17 : xe_look (xc 71) 17 = some (.iaload, 1, 0, 0, 0) := by decide +kernel
theorem qdcl_18 : xe_look (xc 71) 18 = some (.iload_n 1, 1, 0, 0, 0) := by decide +kernel
theorem qdcl_19 : xe_look (xc 71) 19 = some (.if_icmp .eq 40, 3, 0, 0, 0) := by decide +kernel
theorem qdcl_22 : xe_look (xc 71) 22 = some (.aload_n 0, 1, 0, 0, 0) := by decide +kernel
theorem qdcl_23 : xe_look (xc 71) 23 = some (.getfield 21, 3, 6, 1, 905) := by decide +kernel
theorem qdcl_26 : xe_look (xc 71) 26 = some (.iload_n 3, 1, 0, 0, 0) := by decide +kernel
theorem qdcl_27 : xe_look (xc 71) 27 = some (.iaload, 1, 0, 0, 0) := by decide +kernel
theorem qdcl_28 : xe_look (xc 71) 28 = some (.iload_n 1, 1, 0, 0, 0) := by decide +kernel
theorem qdcl_29 : xe_look (xc 71) 29 = some (.if_icmp .eq 30, 3, 0, 0, 0) := by decide +kernel
theorem qdcl_32 : xe_look (xc 71) 32 = some (.aload_n 0, 1, 0, 0, 0) := by decide +kernel
theorem qdcl_33 : xe_look (xc 71) 33 = some (.getfield 15, 3, 6, 0, 904) := by decide +kernel
theorem qdcl_36 : xe_look (xc 71) 36 = some (.iload_n 2, 1, 0, 0, 0) := by decide +kernel
theorem qdcl_37 : xe_look (xc 71) 37 = some (.aload_n 0, 1, 0, 0, 0) := by decide +kernel
theorem qdcl_38 : xe_look (xc 71) 38 = some (.getfield 15, 3, 6, 0, 904) := by decide +kernel
theorem qdcl_41 : xe_look (xc 71) 41 = some (.iload_n 3, 1, 0, 0, 0) := by decide +kernel
theorem qdcl_42 : xe_look (xc 71) 42 = some (.iaload, 1, 0, 0, 0) := by decide +kernel
theorem qdcl_43 : xe_look (xc 71) 43 = some (.iastore, 1, 0, 0, 0) := by decide +kernel
theorem qdcl_44 : xe_look (xc 71) 44 = some (.aload_n 0, 1, 0, 0, 0) := by decide +kernel
theorem qdcl_45 : xe_look (xc 71) 45 = some (.getfield 21, 3, 6, 1, 905) := by decide +kernel
theorem qdcl_48 : xe_look (xc 71) 48 = some (.iload_n 2, 1, 0, 0, 0) := by decide +kernel
theorem qdcl_49 : xe_look (xc 71) 49 = some (.aload_n 0, 1, 0, 0, 0) := by decide +kernel
theorem qdcl_50 : xe_look (xc 71) 50 = some (.getfield 21, 3, 6, 1, 905) := by decide +kernel
theorem qdcl_53 : xe_look (xc 71) 53 = some (.iload_n 3, 1, 0, 0, 0) := by decide +kernel
theorem qdcl_54 : xe_look (xc 71) 54 = some (.iaload, 1, 0, 0, 0) := by decide +kernel
theorem qdcl_55 : xe_look (xc 71) 55 = some (.iastore, 1, 0, 0, 0) := by decide +kernel
theorem qdcl_56 : xe_look (xc 71) 56 = some (.iinc 2 1, 3, 0, 0, 0) := by decide +kernel
theorem qdcl_59 : xe_look (xc 71) 59 = some (.iinc 3 1, 3, 0, 0, 0) := by decide +kernel
theorem qdcl_62 : xe_look (xc 71) 62 = some (.goto (-58), 3, 0, 0, 0) := by decide +kernel
theorem qdcl_65 : xe_look (xc 71) 65 = some (.aload_n 0, 1, 0, 0, 0) := by decide +kernel
theorem qdcl_66 : xe_look (xc 71) 66 = some (.iload_n 2, 1, 0, 0, 0) := by decide +kernel
theorem qdcl_67 : xe_look (xc 71) 67 = some (.putfield 24, 3, 6, 2, 903) := by decide +kernel
theorem qdcl_70 : xe_look (xc 71) 70 = some (.return_, 1, 0, 0, 0) := by decide +kernel
theorem qdli_0 : xe_look (xc 71) 0 = some (.iconst 0, 1, 0, 0, 0) := by decide +kernel
theorem qdli_1 : xe_look (xc 71) 1 = some (.istore_n 2, 1, 0, 0, 0) := by decide +kernel
theorem qdli_2 : xe_look (xc 71) 2 = some (.iconst 0, 1, 0, 0, 0) := by decide +kernel
theorem qdli_3 : xe_look (xc 71) 3 = some (.istore_n 3, 1, 0, 0, 0) := by decide +kernel
theorem qdli_4 : xe_look (xc 71) 4 = some (.iload_n 3, 1, 0, 0, 0) := by decide +kernel
theorem qdli_5 : xe_look (xc 71) 5 = some (.aload_n 0, 1, 0, 0, 0) := by decide +kernel
theorem qdli_6 : xe_look (xc 71) 6 = some (.getfield 24, 3, 6, 2, 903) := by decide +kernel
theorem qdli_9 : xe_look (xc 71) 9 = some (.if_icmp .ge 56, 3, 0, 0, 0) := by decide +kernel
theorem qdli_12 : xe_look (xc 71) 12 = some (.aload_n 0, 1, 0, 0, 0) := by decide +kernel
theorem qdli_13 : xe_look (xc 71) 13 = some (.getfield 15, 3, 6, 0, 904) := by decide +kernel
theorem qdli_16 : xe_look (xc 71) 16 = some (.iload_n 3, 1, 0, 0, 0) := by decide +kernel
theorem qdli_17 : xe_look (xc 71) 17 = some (.iaload, 1, 0, 0, 0) := by decide +kernel
theorem qdli_18 : xe_look (xc 71) 18 = some (.iload_n 1, 1, 0, 0, 0) := by decide +kernel
theorem qdli_19 : xe_look (xc 71) 19 = some (.if_icmp .eq 40, 3, 0, 0, 0) := by decide +kernel
theorem qdli_22 : xe_look (xc 71) 22 = some (.aload_n 0, 1, 0, 0, 0) := by decide +kernel
theorem qdli_23 : xe_look (xc 71) 23 = some (.getfield 21, 3, 6, 1, 905) := by decide +kernel
theorem qdli_26 : xe_look (xc 71) 26 = some (.iload_n 3, 1, 0, 0, 0) := by decide +kernel
theorem qdli_27 : xe_look (xc 71) 27 = some (.iaload, 1, 0, 0, 0) := by decide +kernel
theorem qdli_28 : xe_look (xc 71) 28 = some (.iload_n 1, 1, 0, 0, 0) := by decide +kernel
theorem qdli_29 : xe_look (xc 71) 29 = some (.if_icmp .eq 30, 3, 0, 0, 0) := by decide +kernel
theorem qdli_32 : xe_look (xc 71) 32 = some (.aload_n 0, 1, 0, 0, 0) := by decide +kernel
theorem qdli_33 : xe_look (xc 71) 33 = some (.getfield 15, 3, 6, 0, 904) := by decide +kernel
theorem qdli_36 : xe_look (xc 71) 36 = some (.iload_n 2, 1, 0, 0, 0) := by decide +kernel
theorem qdli_37 : xe_look (xc 71) 37 = some (.aload_n 0, 1, 0, 0, 0) := by decide +kernel
theorem qdli_38 : xe_look (xc 71) 38 = some (.getfield 15, 3, 6, 0, 904) := by decide +kernel
theorem qdli_41 : xe_look (xc 71) 41 = some (.iload_n 3, 1, 0, 0, 0) := by decide +kernel
theorem qdli_42 : xe_look (xc 71) 42 = some (.iaload, 1, 0, 0, 0) := by decide +kernel
theorem qdli_43 : xe_look (xc 71) 43 = some (.iastore, 1, 0, 0, 0) := by decide +kernel
theorem qdli_44 : xe_look (xc 71) 44 = some (.aload_n 0, 1, 0, 0, 0) := by decide +kernel
theorem qdli_45 : xe_look (xc 71) 45 = some (.getfield 21, 3, 6, 1, 905) := by decide +kernel
theorem qdli_48 : xe_look (xc 71) 48 = some (.iload_n 2, 1, 0, 0, 0) := by decide +kernel
theorem qdli_49 : xe_look (xc 71) 49 = some (.aload_n 0, 1, 0, 0, 0) := by decide +kernel
theorem qdli_50 : xe_look (xc 71) 50 = some (.getfield 21, 3, 6, 1, 905) := by decide +kernel
theorem qdli_53 : xe_look (xc 71) 53 = some (.iload_n 3, 1, 0, 0, 0) := by decide +kernel
theorem qdli_54 : xe_look (xc 71) 54 = some (.iaload, 1, 0, 0, 0) := by decide +kernel
theorem qdli_55 : xe_look (xc 71) 55 = some (.iastore, 1, 0, 0, 0) := by decide +kernel
theorem qdli_56 : xe_look (xc 71) 56 = some (.iinc 2 1, 3, 0, 0, 0) := by decide +kernel
theorem qdli_59 : xe_look (xc 71) 59 = some (.iinc 3 1, 3, 0, 0, 0) := by decide +kernel
theorem qdli_62 : xe_look (xc 71) 62 = some (.goto (-58), 3, 0, 0, 0) := by decide +kernel
theorem qdli_65 : xe_look (xc 71) 65 = some (.aload_n 0, 1, 0, 0, 0) := by decide +kernel
theorem qdli_66 : xe_look (xc 71) 66 = some (.iload_n 2, 1, 0, 0, 0) := by decide +kernel
theorem qdli_67 : xe_look (xc 71) 67 = some (.putfield 24, 3, 6, 2, 903) := by decide +kernel
theorem qdli_70 : xe_look (xc 71) 70 = some (.return_, 1, 0, 0, 0) := by decide +kernel
theorem er_70 : eL[70]? = some (0, 6) := by decide +kernel
theorem er_73 : eL[73]? = some (0, 6) := by decide +kernel
theorem cg_70_0 : (eG (cn 70 + 0)).2.2 = [72] := by decide +kernel
theorem cr_70_0 {d i : Nat} {lv : List (Nat × pv)} {r : List pv} {g : pH} (hG : g_I eG g) : px_push eL d none (.getfield i) 6 0 lv (pvR 70 :: r) g = some (pvR 71 :: r) := pget er_70 (gI_r (r := 71) hG er_70 (Nat.le_of_ble_eq_true rfl) (y := 0) rfl cg_70_0)
theorem cg_70_1 : (eG (cn 70 + 1)).2.2 = [73] := by decide +kernel
theorem cr_70_1 {d i : Nat} {lv : List (Nat × pv)} {r : List pv} {g : pH} (hG : g_I eG g) : px_push eL d none (.getfield i) 6 1 lv (pvR 70 :: r) g = some (pvR 72 :: r) := pget er_70 (gI_r (r := 72) hG er_70 (Nat.le_of_ble_eq_true rfl) (y := 1) rfl cg_70_1)
theorem cg_73_0 : (eG (cn 73 + 0)).2.2 = [75] := by decide +kernel
theorem cr_73_0 {d i : Nat} {lv : List (Nat × pv)} {r : List pv} {g : pH} (hG : g_I eG g) : px_push eL d none (.getfield i) 6 0 lv (pvR 73 :: r) g = some (pvR 74 :: r) := pget er_73 (gI_r (r := 74) hG er_73 (Nat.le_of_ble_eq_true rfl) (y := 0) rfl cg_73_0)
theorem cg_73_1 : (eG (cn 73 + 1)).2.2 = [76] := by decide +kernel
theorem cr_73_1 {d i : Nat} {lv : List (Nat × pv)} {r : List pv} {g : pH} (hG : g_I eG g) : px_push eL d none (.getfield i) 6 1 lv (pvR 73 :: r) g = some (pvR 75 :: r) := pget er_73 (gI_r (r := 75) hG er_73 (Nat.le_of_ble_eq_true rfl) (y := 1) rfl cg_73_1)
theorem gx_70_2 : eG (cn 70 + 2) = (0, 24, []) := by decide +kernel
theorem gx_73_2 : eG (cn 73 + 2) = (0, 12, []) := by decide +kernel
theorem cb_70_2 {g : pH} (hG : g_I eG g) : 0 ≤ cF g 70 2 ∧ cF g 70 2 ≤ 24 := cb_i hG er_70 (Nat.le_of_ble_eq_true rfl) rfl gx_70_2
theorem cb_73_2 {g : pH} (hG : g_I eG g) : 0 ≤ cF g 73 2 ∧ cF g 73 2 ≤ 12 := cb_i hG er_73 (Nat.le_of_ble_eq_true rfl) rfl gx_73_2
theorem el_71 : eL[71]? = some (1, 24) := by decide +kernel
theorem ga_71 : eG (cn 71) = (0, 31, []) := by decide +kernel
theorem el_72 : eL[72]? = some (1, 24) := by decide +kernel
theorem ga_72 : eG (cn 72) = (0, 31, []) := by decide +kernel
theorem el_74 : eL[74]? = some (1, 12) := by decide +kernel
theorem ga_74 : eG (cn 74) = (0, 31, []) := by decide +kernel
theorem el_75 : eL[75]? = some (1, 12) := by decide +kernel
theorem ga_75 : eG (cn 75) = (0, 31, []) := by decide +kernel
theorem el_145 : eL[145]? = some (1, 24) := by decide +kernel
theorem ga_145 : eG (cn 145) = (0, 31, []) := by decide +kernel
theorem el_146 : eL[146]? = some (1, 24) := by decide +kernel
theorem ga_146 : eG (cn 146) = (0, 31, []) := by decide +kernel
theorem el_148 : eL[148]? = some (1, 12) := by decide +kernel
theorem ga_148 : eG (cn 148) = (0, 31, []) := by decide +kernel
theorem el_149 : eL[149]? = some (1, 12) := by decide +kernel
theorem ga_149 : eG (cn 149) = (0, 31, []) := by decide +kernel
theorem el_208 : eL[208]? = some (1, 12) := by decide +kernel
theorem ga_208 : eG (cn 208) = (0, 31, []) := by decide +kernel
theorem el_209 : eL[209]? = some (1, 12) := by decide +kernel
theorem ga_209 : eG (cn 209) = (0, 31, []) := by decide +kernel
theorem el_249 : eL[249]? = some (1, 24) := by decide +kernel
theorem ga_249 : eG (cn 249) = (0, 31, []) := by decide +kernel
theorem el_250 : eL[250]? = some (1, 24) := by decide +kernel
theorem ga_250 : eG (cn 250) = (0, 31, []) := by decide +kernel
theorem el_251 : eL[251]? = some (1, 12) := by decide +kernel
theorem ga_251 : eG (cn 251) = (0, 31, []) := by decide +kernel
theorem el_252 : eL[252]? = some (1, 12) := by decide +kernel
theorem ga_252 : eG (cn 252) = (0, 31, []) := by decide +kernel
section TY
variable {d μ pc W : Nat} {lv : List (Nat × pv)} {r : List pv} {h0 g : pH} {P : Option pv × pH → Prop}
theorem pq_al {x y k n : Nat} (hk : eL[k]? = some (1, n)) (h1 : Nat.beq k 1000 = false) : px_push eL d none .arraylength x y lv (pvR k :: r) g = some (oI (n : Int) :: r) := by
  show px_alen eL none (.inr (.inr (some k)) :: r) = _
  unfold px_alen
  dsimp only
  rw [if_neg (fun z => by rw [z] at h1; cases h1), hk]
  show (if 1 ≤ 1 ∧ 1 ≤ 4 then some ((.inl (nI n) : pv) :: r) else none) = _
  rw [if_pos (by decide), nI_o]
theorem pq_mn {i y : Nat} {a b : Int} (hd : 1 ≤ d) (hr : px_sum r ≤ 6) (ha : -2147483648 ≤ a ∧ a ≤ 2147483647) (hb : -2147483648 ≤ b ∧ b ≤ 2147483647) (hab : a ≤ b) : px_push eL d none (.invokestatic i) 3 y lv (oI b :: oI a :: r) g = some (oI a :: r) := by
  show (if 1 ≤ d ∧ px_sum (oI b :: oI a :: r) ≤ 8 then _ else none) = _
  rw [if_pos ⟨hd, by show 1 + (1 + px_sum r) ≤ 8; omega⟩]
  show px_u2 xe_min (oI b :: oI a :: r) = _
  show some ((.inl (xe_min (Int32.ofInt a) (Int32.ofInt b)) : pv) :: r) = _
  rw [show xe_min (Int32.ofInt a) (Int32.ofInt b) = Int32.ofInt a from if_neg (fun z => by have := (lt_oI hb ha).mp z; omega)]
theorem tw_cp {i y z a a0 na n0 : Nat} {e : Int} (hq : xe_look (xc μ) pc = some (.invokestatic i, 3, 5, y, z)) (hd : 1 ≤ d) (hr : px_sum r ≤ 8) (hJ : J_ W h0 g) (ha : eL[a]? = some (1, na)) (ha0 : eL[a0]? = some (1, n0)) (hn : Nat.ble na 10000 = true) (he : 0 ≤ e ∧ e ≤ na ∧ e ≤ n0) (hW : W.testBit (cn a) = true) (hg : eG (cn a0) = eG (cn a)) (hP : ∀ g1 : pH, J_ W h0 g1 → fA g1 a = (fun k : Nat => if (k : Int) < e then fA g a0 k else fA g a k) → (∀ K, K ≠ a → fA g1 K = fA g K) → g1.1 = g.1 → t_X d μ (pc + 3) lv r g1 P) : t_X d μ pc lv (oI e :: oI 0 :: pvR a :: oI 0 :: pvR a0 :: r) g P := by
  have hn := Nat.le_of_ble_eq_true hn
  have e1 : (Int32.ofInt e).toInt = e := oT (by omega) (by omega)
  have e2 : (Int32.ofInt e).toNatClampNeg = e.toNat := by
    show (Int32.ofInt e).toInt.toNat = _
    rw [e1]
  have z1 : ¬ Int32.ofInt 0 < 0 := by decide
  have z2 : (Int32.ofInt 0).toNatClampNeg = 0 := by decide
  have z3 : ¬ Int32.ofInt e < 0 := by
    rw [Int32.lt_iff_toInt_lt, e1]
    show ¬ e < 0
    omega
  let g1 : pH := (g.1, g.2.1, g.2.2.1, (fun k => if k = a then va_cpy (g.2.2.2.1 a0) (g.2.2.2.1 a) 0 0 e.toNat else g.2.2.2.1 k), g.2.2.2.2)
  have hw : w_a g g1 a := ⟨⟨rfl, rfl, rfl⟩, fun k' hn => ⟨if_neg hn, rfl, rfl⟩⟩
  have hval : ∀ k, g1.2.2.2.1 a k = if k < e.toNat then g.2.2.2.1 a0 k else g.2.2.2.1 a k := fun k => by
    show (if a = a then va_cpy (g.2.2.2.1 a0) (g.2.2.2.1 a) 0 0 e.toNat else g.2.2.2.1 a) k = _
    rw [if_pos rfl]
    unfold va_cpy
    by_cases hk : k < e.toNat
    · rw [if_pos ⟨Nat.zero_le _, by omega⟩, if_pos hk]
      exact congrArg (g.2.2.2.1 a0) (by omega)
    · rw [if_neg (fun z => hk (by omega)), if_neg hk]
  have hI : g_I eG g1 := g_I_a hJ.1 hw (fun t' ht' => by
    rw [ha] at ht'
    cases ht'
    refine ⟨fun h0 i hi => ?_, fun h0 => ?_, fun h0 => ?_⟩
    · rw [hval i]
      split
      · rw [← hg]
        exact gI_ia hJ.1 ha0 (by omega)
      · exact gI_ia hJ.1 ha hi
    · cases h0
    · cases h0)
  refine t_4 hq rfl (w := (r, g1)) ?_ (hP g1 ⟨hI, w_a_M hw hJ.2 hW⟩ ?_ (fun K hK => ?_) rfl)
  · show (if (5 : Nat) = 5 then px_acp eL d g (oI e :: oI 0 :: pvR a :: oI 0 :: pvR a0 :: r) else none) = _
    rw [if_pos rfl]
    unfold px_acp
    dsimp only
    rw [ha, ha0]
    dsimp only
    rw [if_pos ⟨hd, hr, rfl, rfl, z1, z1, z3, by rw [z2, e2]; omega, by rw [z2, e2]; omega⟩, z2, e2]
  · funext k
    show (g1.2.2.2.1 a k).toInt = _
    rw [hval k]
    by_cases hk : k < e.toNat
    · rw [if_pos hk, if_pos (by omega)]
      rfl
    · rw [if_neg hk, if_neg (by omega)]
      rfl
  · show (fun j => ((if K = a then va_cpy (g.2.2.2.1 a0) (g.2.2.2.1 a) 0 0 e.toNat else g.2.2.2.1 K) j).toInt) = _
    rw [if_neg hK]
    rfl
end TY
theorem rg31 {e : Int} (h : 0 ≤ e ∧ e ≤ 31) : 0 ≤ (Int32.ofInt e).toInt ∧ (Int32.ofInt e).toInt ≤ 31 := by
  rw [oT (by omega) (by omega)]
  exact h
theorem fA_pn {f : pH} {K K' j : Nat} {v : Int32} (h : K' ≠ K) : fA (f.1, f.2.1, f.2.2.1, pu f.2.2.2.1 K j v, f.2.2.2.2) K' = fA f K' := by
  funext k
  exact congrArg Int32.toInt (if_neg (fun z => h z.1))
theorem fA_pu2 {f : pH} {K j : Nat} {e : Int} (h : -2147483648 ≤ e ∧ e ≤ 2147483647) : fA (f.1, f.2.1, f.2.2.1, pu f.2.2.2.1 K j (Int32.ofInt e), f.2.2.2.2) K = updI (fA f K) j e := by
  rw [fA_pu, oT h.1 h.2]
/-- what is left of two rows, without twos that have i -/
def dw (i : Int) (A B : Nat → Int) : Nat → Nat × (Nat → Int) × (Nat → Int)
  | 0 => (0, A, B)
  | k + 1 => if (dw i A B k).2.1 k ≠ i ∧ (dw i A B k).2.2 k ≠ i then ((dw i A B k).1 + 1, updI (dw i A B k).2.1 (dw i A B k).1 ((dw i A B k).2.1 k), updI (dw i A B k).2.2 (dw i A B k).1 ((dw i A B k).2.2 k)) else dw i A B k
theorem dw_le {i : Int} {A B : Nat → Int} : ∀ k, (dw i A B k).1 ≤ k
  | 0 => Nat.le_refl _
  | k + 1 => by
    have := dw_le (i := i) (A := A) (B := B) k
    unfold dw
    split
    · show (dw i A B k).1 + 1 ≤ k + 1
      omega
    · omega
theorem dw_t {i : Int} {A B : Nat → Int} {k : Nat} (h1 : (dw i A B k).2.1 k ≠ i) (h2 : (dw i A B k).2.2 k ≠ i) : dw i A B (k + 1) = ((dw i A B k).1 + 1, updI (dw i A B k).2.1 (dw i A B k).1 ((dw i A B k).2.1 k), updI (dw i A B k).2.2 (dw i A B k).1 ((dw i A B k).2.2 k)) := if_pos ⟨h1, h2⟩
theorem dw_f {i : Int} {A B : Nat → Int} {k : Nat} (h : (dw i A B k).2.1 k = i ∨ (dw i A B k).2.2 k = i) : dw i A B (k + 1) = dw i A B k := if_neg (fun z => by
  rcases h with h | h
  · exact z.1 h
  · exact z.2 h)
/-- rows that are the same as far as they go -/
def rwE (N : Nat) (A B A' B' : Nat → Int) : Prop := ∀ j, j < N → A j = A' j ∧ B j = B' j
theorem dw_r {i : Int} {A B A' B' : Nat → Int} {N : Nat} (h : rwE N A B A' B') : ∀ k, k ≤ N → (dw i A B k).1 = (dw i A' B' k).1 ∧ rwE N (dw i A B k).2.1 (dw i A B k).2.2 (dw i A' B' k).2.1 (dw i A' B' k).2.2
  | 0, _ => ⟨rfl, h⟩
  | k + 1, hk => by
    obtain ⟨h1, h2⟩ := dw_r (i := i) h k (by omega)
    obtain ⟨e1, e2⟩ := h2 k (by omega)
    by_cases c : (dw i A B k).2.1 k ≠ i ∧ (dw i A B k).2.2 k ≠ i
    · rw [dw_t c.1 c.2, dw_t (by rw [← e1]; exact c.1) (by rw [← e2]; exact c.2)]
      refine ⟨by show (dw i A B k).1 + 1 = (dw i A' B' k).1 + 1; rw [h1], fun j hj => ?_⟩
      show updI (dw i A B k).2.1 (dw i A B k).1 ((dw i A B k).2.1 k) j = updI (dw i A' B' k).2.1 (dw i A' B' k).1 ((dw i A' B' k).2.1 k) j ∧ updI (dw i A B k).2.2 (dw i A B k).1 ((dw i A B k).2.2 k) j = updI (dw i A' B' k).2.2 (dw i A' B' k).1 ((dw i A' B' k).2.2 k) j
      rw [h1, e1, e2]
      unfold updI
      by_cases z : j = (dw i A' B' k).1
      · rw [if_pos z, if_pos z, if_pos z, if_pos z]
        exact ⟨rfl, rfl⟩
      · rw [if_neg z, if_neg z, if_neg z, if_neg z]
        exact h2 j hj
    · have c1 : (dw i A B k).2.1 k = i ∨ (dw i A B k).2.2 k = i := by
        by_cases z : (dw i A B k).2.1 k = i
        · exact Or.inl z
        · by_cases z2 : (dw i A B k).2.2 k = i
          · exact Or.inr z2
          · exact absurd ⟨z, z2⟩ c
      rw [dw_f c1, dw_f (by rw [← e1, ← e2]; exact c1)]
      exact ⟨h1, h2⟩
set_option maxHeartbeats 2000000 in
theorem ad_cl {d W : Nat} {h0 g : pH} (hJ : J_ W h0 g) (w_a71 : W.testBit (cn 71) = true) (w_a72 : W.testBit (cn 72) = true) (w_70_2 : W.testBit (cn 70 + 2) = true) {i j : Int} (hi : 0 ≤ i ∧ i ≤ 31) (hj : 0 ≤ j ∧ j ≤ 31) {P : Option pv × pH → Prop} (hP0 : cF g 70 2 = 24 → P (some (oI (-1)), g)) (hP1 : ∀ g1 : pH, J_ W h0 g1 → cF g 70 2 < 24 → cF g1 70 2 = cF g 70 2 + 1 → fA g1 71 = updI (fA g 71) (cF g 70 2).toNat i → fA g1 72 = updI (fA g 72) (cF g 70 2).toNat j → P (some (oI (cF g 70 2 + 1)), g1)) {lv : List (Nat × pv)} (l0 : px_lg lv 0 = some (pvR 70)) (l1 : px_lg lv 1 = some (oI i)) (l2 : px_lg lv 2 = some (oI j)) : t_X d 69 0 lv [] g P := by
  have hb := cb_70_2 hJ.1
  refine t_0 qacl_0 rfl (ld_a l0) ?_
  have r1 := cb_70_2 hJ.1
  refine t_0 qacl_1 rfl (pq_cf (y := 2) er_70 rfl) ?_
  refine t_0 qacl_4 rfl (ld_a l0) ?_
  refine t_0 qacl_5 rfl (cr_70_0 hJ.1) ?_
  refine t_0 qacl_8 rfl (pq_al el_71 rfl) ?_
  refine tb_lt qacl_9 (by decide) ⟨by omega, by omega⟩ ⟨by omega, by omega⟩ (fun c2 => ?_) (fun c2 => ?_)
  · show t_X d 69 14 lv [] g P
    refine t_0 qacl_14 rfl (ld_a l0) ?_
    refine t_0 qacl_15 rfl (cr_70_0 hJ.1) ?_
    refine t_0 qacl_18 rfl (ld_a l0) ?_
    have r3 := cb_70_2 hJ.1
    refine t_0 qacl_19 rfl (pq_cf (y := 2) er_70 rfl) ?_
    refine t_0 qacl_22 rfl (ld_i l1) ?_
    refine tw_i qacl_23 hJ el_71 rfl w_a71 ga_71 ⟨by omega, by omega⟩ (rg31 ⟨by omega, by omega⟩) (fun g4 hJ4 e4 => ?_)
    have u4_71 : fA g4 71 = updI (fA g 71) (cF g 70 2).toNat (i) := by rw [e4]; exact fA_pu2 ⟨by omega, by omega⟩
    have u4_72 : fA g4 72 = fA g 72 := by rw [e4]; exact fA_pn (by decide)
    have v4 : cF g4 70 2 = cF g 70 2 := by rw [e4]; rfl
    show t_X d 69 24 lv [] g4 P
    refine t_0 qacl_24 rfl (ld_a l0) ?_
    refine t_0 qacl_25 rfl (cr_70_1 hJ4.1) ?_
    refine t_0 qacl_28 rfl (ld_a l0) ?_
    have r5 := cb_70_2 hJ4.1
    refine t_0 qacl_29 rfl (pq_cf (y := 2) er_70 rfl) ?_
    refine t_0 qacl_32 rfl (ld_i l2) ?_
    refine tw_i qacl_33 hJ4 el_72 rfl w_a72 ga_72 ⟨by omega, by omega⟩ (rg31 ⟨by omega, by omega⟩) (fun g6 hJ6 e6 => ?_)
    have u6_72 : fA g6 72 = updI (fA g4 72) (cF g4 70 2).toNat (j) := by rw [e6]; exact fA_pu2 ⟨by omega, by omega⟩
    have u6_71 : fA g6 71 = fA g4 71 := by rw [e6]; exact fA_pn (by decide)
    have v6 : cF g6 70 2 = cF g4 70 2 := by rw [e6]; rfl
    show t_X d 69 34 lv [] g6 P
    refine t_0 qacl_34 rfl (ld_a l0) ?_
    refine t_0 qacl_35 rfl rfl ?_
    have r7 := cb_70_2 hJ6.1
    refine t_0 qacl_36 rfl (pq_cf (y := 2) er_70 rfl) ?_
    refine t_0 qacl_39 rfl rfl ?_
    refine t_0 qacl_40 rfl pq_add ?_
    refine tw_c qacl_41 er_70 rfl hJ6 w_70_2 gx_70_2 (by decide) ⟨by omega, by omega⟩ (fun g8 hJ8 e8 => ?_)
    have v8 : cF g8 70 2 = (cF g6 70 2) + 1 := by rw [e8]; exact pc_at (by omega) (by omega)
    have u8_71 : fA g8 71 = fA g6 71 := by rw [e8]; rfl
    have u8_72 : fA g8 72 = fA g6 72 := by rw [e8]; rfl
    show t_X d 69 44 lv [] g8 P
    refine t_0 qacl_44 rfl (ld_a l0) ?_
    have r9 := cb_70_2 hJ8.1
    refine t_0 qacl_45 rfl (pq_cf (y := 2) er_70 rfl) ?_
    refine t_5 qacl_48 rfl rfl ?_
    rw [show cF g8 70 2 = cF g 70 2 + 1 by omega]
    refine hP1 _ hJ8 (by omega) (by omega) ?_ ?_
    · simp only [u8_71, u6_71, u4_71, v4, v6]
    · simp only [u8_72, u6_72, u4_72, v4, v6]
  · show t_X d 69 12 lv [] g P
    refine t_0 qacl_12 rfl rfl ?_
    refine t_5 qacl_13 rfl rfl ?_
    exact hP0 (by omega)
set_option maxHeartbeats 2000000 in
theorem ad_li {d W : Nat} {h0 g : pH} (hJ : J_ W h0 g) (w_a74 : W.testBit (cn 74) = true) (w_a75 : W.testBit (cn 75) = true) (w_73_2 : W.testBit (cn 73 + 2) = true) {i j : Int} (hi : 0 ≤ i ∧ i ≤ 31) (hj : 0 ≤ j ∧ j ≤ 31) {P : Option pv × pH → Prop} (hP0 : cF g 73 2 = 12 → P (some (oI (-1)), g)) (hP1 : ∀ g1 : pH, J_ W h0 g1 → cF g 73 2 < 12 → cF g1 73 2 = cF g 73 2 + 1 → fA g1 74 = updI (fA g 74) (cF g 73 2).toNat i → fA g1 75 = updI (fA g 75) (cF g 73 2).toNat j → P (some (oI (cF g 73 2 + 1)), g1)) {lv : List (Nat × pv)} (l0 : px_lg lv 0 = some (pvR 73)) (l1 : px_lg lv 1 = some (oI i)) (l2 : px_lg lv 2 = some (oI j)) : t_X d 69 0 lv [] g P := by
  have hb := cb_73_2 hJ.1
  refine t_0 qali_0 rfl (ld_a l0) ?_
  have r1 := cb_73_2 hJ.1
  refine t_0 qali_1 rfl (pq_cf (y := 2) er_73 rfl) ?_
  refine t_0 qali_4 rfl (ld_a l0) ?_
  refine t_0 qali_5 rfl (cr_73_0 hJ.1) ?_
  refine t_0 qali_8 rfl (pq_al el_74 rfl) ?_
  refine tb_lt qali_9 (by decide) ⟨by omega, by omega⟩ ⟨by omega, by omega⟩ (fun c2 => ?_) (fun c2 => ?_)
  · show t_X d 69 14 lv [] g P
    refine t_0 qali_14 rfl (ld_a l0) ?_
    refine t_0 qali_15 rfl (cr_73_0 hJ.1) ?_
    refine t_0 qali_18 rfl (ld_a l0) ?_
    have r3 := cb_73_2 hJ.1
    refine t_0 qali_19 rfl (pq_cf (y := 2) er_73 rfl) ?_
    refine t_0 qali_22 rfl (ld_i l1) ?_
    refine tw_i qali_23 hJ el_74 rfl w_a74 ga_74 ⟨by omega, by omega⟩ (rg31 ⟨by omega, by omega⟩) (fun g4 hJ4 e4 => ?_)
    have u4_74 : fA g4 74 = updI (fA g 74) (cF g 73 2).toNat (i) := by rw [e4]; exact fA_pu2 ⟨by omega, by omega⟩
    have u4_75 : fA g4 75 = fA g 75 := by rw [e4]; exact fA_pn (by decide)
    have v4 : cF g4 73 2 = cF g 73 2 := by rw [e4]; rfl
    show t_X d 69 24 lv [] g4 P
    refine t_0 qali_24 rfl (ld_a l0) ?_
    refine t_0 qali_25 rfl (cr_73_1 hJ4.1) ?_
    refine t_0 qali_28 rfl (ld_a l0) ?_
    have r5 := cb_73_2 hJ4.1
    refine t_0 qali_29 rfl (pq_cf (y := 2) er_73 rfl) ?_
    refine t_0 qali_32 rfl (ld_i l2) ?_
    refine tw_i qali_33 hJ4 el_75 rfl w_a75 ga_75 ⟨by omega, by omega⟩ (rg31 ⟨by omega, by omega⟩) (fun g6 hJ6 e6 => ?_)
    have u6_75 : fA g6 75 = updI (fA g4 75) (cF g4 73 2).toNat (j) := by rw [e6]; exact fA_pu2 ⟨by omega, by omega⟩
    have u6_74 : fA g6 74 = fA g4 74 := by rw [e6]; exact fA_pn (by decide)
    have v6 : cF g6 73 2 = cF g4 73 2 := by rw [e6]; rfl
    show t_X d 69 34 lv [] g6 P
    refine t_0 qali_34 rfl (ld_a l0) ?_
    refine t_0 qali_35 rfl rfl ?_
    have r7 := cb_73_2 hJ6.1
    refine t_0 qali_36 rfl (pq_cf (y := 2) er_73 rfl) ?_
    refine t_0 qali_39 rfl rfl ?_
    refine t_0 qali_40 rfl pq_add ?_
    refine tw_c qali_41 er_73 rfl hJ6 w_73_2 gx_73_2 (by decide) ⟨by omega, by omega⟩ (fun g8 hJ8 e8 => ?_)
    have v8 : cF g8 73 2 = (cF g6 73 2) + 1 := by rw [e8]; exact pc_at (by omega) (by omega)
    have u8_74 : fA g8 74 = fA g6 74 := by rw [e8]; rfl
    have u8_75 : fA g8 75 = fA g6 75 := by rw [e8]; rfl
    show t_X d 69 44 lv [] g8 P
    refine t_0 qali_44 rfl (ld_a l0) ?_
    have r9 := cb_73_2 hJ8.1
    refine t_0 qali_45 rfl (pq_cf (y := 2) er_73 rfl) ?_
    refine t_5 qali_48 rfl rfl ?_
    rw [show cF g8 73 2 = cF g 73 2 + 1 by omega]
    refine hP1 _ hJ8 (by omega) (by omega) ?_ ?_
    · simp only [u8_74, u6_74, u4_74, v4, v6]
    · simp only [u8_75, u6_75, u4_75, v4, v6]
  · show t_X d 69 12 lv [] g P
    refine t_0 qali_12 rfl rfl ?_
    refine t_5 qali_13 rfl rfl ?_
    exact hP0 (by omega)
set_option maxHeartbeats 4000000 in
theorem dl_cl {d W : Nat} {w0 h0 : pH} {i : Int} (hi : 0 ≤ i ∧ i ≤ 31) (w_a71 : W.testBit (cn 71) = true) (w_a72 : W.testBit (cn 72) = true) (w_70_2 : W.testBit (cn 70 + 2) = true) {P : Option pv × pH → Prop} (hP : ∀ g1 : pH, J_ W w0 g1 → cF g1 70 2 = ((dw i (fA h0 71) (fA h0 72) (cF h0 70 2).toNat).1 : Int) → fA g1 71 = (dw i (fA h0 71) (fA h0 72) (cF h0 70 2).toNat).2.1 → fA g1 72 = (dw i (fA h0 71) (fA h0 72) (cF h0 70 2).toNat).2.2 → P (none, g1)) : ∀ (n m : Nat) (lv : List (Nat × pv)) (g : pH), (cF h0 70 2).toNat - m ≤ n → m ≤ (cF h0 70 2).toNat → J_ W w0 g → cF g 70 2 = cF h0 70 2 → fA g 71 = (dw i (fA h0 71) (fA h0 72) m).2.1 → fA g 72 = (dw i (fA h0 71) (fA h0 72) m).2.2 → px_lg lv 0 = some (pvR 70) → px_lg lv 1 = some (oI i) → px_lg lv 2 = some (oI ((dw i (fA h0 71) (fA h0 72) m).1 : Int)) → px_lg lv 3 = some (oI (m : Int)) → t_X d 71 4 lv [] g P := by
  intro n
  induction n with
  | zero =>
    intro m lv g hn hm hJ hz hA hB l0 l1 l2 l3
    have hc := cb_70_2 hJ.1
    have hle := dw_le (i := i) (A := fA h0 71) (B := fA h0 72) m
    have he : m = (cF h0 70 2).toNat := by omega
    refine t_0 qdcl_4 rfl (ld_i l3) ?_
    refine t_0 qdcl_5 rfl (ld_a l0) ?_
    have r1 := cb_70_2 hJ.1
    refine t_0 qdcl_6 rfl (pq_cf (y := 2) er_70 rfl) ?_
    refine tb_ge qdcl_9 (by decide) ⟨by omega, by omega⟩ ⟨by omega, by omega⟩ (fun c2 => ?_) (fun c2 => absurd c2 (by omega))
    show t_X d 71 65 lv [] g P
    refine t_0 qdcl_65 rfl (ld_a l0) ?_
    refine t_0 qdcl_66 rfl (ld_i l2) ?_
    refine tw_c qdcl_67 er_70 rfl hJ w_70_2 gx_70_2 (by decide) ⟨by omega, by omega⟩ (fun g3 hJ3 e3 => ?_)
    have v3 : cF g3 70 2 = ((dw i (fA h0 71) (fA h0 72) m).1 : Int) := by rw [e3]; exact pc_at (by omega) (by omega)
    have u3_71 : fA g3 71 = fA g 71 := by rw [e3]; rfl
    have u3_72 : fA g3 72 = fA g 72 := by rw [e3]; rfl
    show t_X d 71 70 lv [] g3 P
    refine t_5 qdcl_70 rfl rfl ?_
    refine hP _ hJ3 ?_ ?_ ?_
    · rw [v3, he]
    · simp only [u3_71]; rw [hA, he]
    · simp only [u3_72]; rw [hB, he]
  | succ n ih =>
    intro m lv g hn hm hJ hz hA hB l0 l1 l2 l3
    have hc := cb_70_2 hJ.1
    have hle := dw_le (i := i) (A := fA h0 71) (B := fA h0 72) m
    by_cases hlt : m < (cF h0 70 2).toNat
    · skip
      refine t_0 qdcl_4 rfl (ld_i l3) ?_
      refine t_0 qdcl_5 rfl (ld_a l0) ?_
      have r1 := cb_70_2 hJ.1
      refine t_0 qdcl_6 rfl (pq_cf (y := 2) er_70 rfl) ?_
      refine tb_ge qdcl_9 (by decide) ⟨by omega, by omega⟩ ⟨by omega, by omega⟩ (fun c2 => absurd c2 (by omega)) (fun c2 => ?_)
      show t_X d 71 12 lv [] g P
      refine t_0 qdcl_12 rfl (ld_a l0) ?_
      refine t_0 qdcl_13 rfl (cr_70_0 hJ.1) ?_
      refine t_0 qdcl_16 rfl (ld_i l3) ?_
      refine t_0 qdcl_17 rfl (pq_ia el_71 rfl ⟨by omega, by omega⟩) ?_
      show t_X d 71 18 lv [oI (fA g 71 m)] g P
      have r3 := gb_a hJ.1 el_71 (j := m) (by omega) ga_71
      refine t_0 qdcl_18 rfl (ld_i l1) ?_
      refine tb_eq qdcl_19 (by decide) ⟨by omega, by omega⟩ ⟨by omega, by omega⟩ (fun c4 => ?_) (fun c4 => ?_)
      · show t_X d 71 59 lv [] g P
        refine t_2 qdcl_59 rfl (w := (px_s1 lv 3 (oI ((m : Int) + 1)), [])) (pq_inc l3 (by decide)) ?_
        replace l0 : px_lg (px_s1 lv 3 (oI ((m : Int) + 1))) 0 = some (pvR 70) := s1_ne (by decide) (fun _ => rfl) l0
        replace l1 : px_lg (px_s1 lv 3 (oI ((m : Int) + 1))) 1 = some (oI (i)) := s1_ne (by decide) (fun _ => rfl) l1
        replace l2 : px_lg (px_s1 lv 3 (oI ((m : Int) + 1))) 2 = some (oI (((dw i (fA h0 71) (fA h0 72) m).1 : Int))) := s1_ne (by decide) (fun _ => rfl) l2
        have l3 : px_lg (px_s1 lv 3 (oI ((m : Int) + 1))) 3 = some (oI ((m : Int) + 1)) := s1_eq
        generalize px_s1 lv 3 (oI ((m : Int) + 1)) = lv5 at l0 l1 l2 l3 ⊢
        show t_X d 71 62 lv5 [] g P
        refine t_1 qdcl_62 rfl (pb_goto (pc := 62) (by decide)) ?_
        show t_X d 71 4 lv5 [] g P
        have hd := dw_f (i := i) (A := fA h0 71) (B := fA h0 72) (k := m) (by rw [← hA, ← hB]; omega)
        exact ih (m + 1) _ g (by omega) (by omega) hJ (by omega) (by rw [hd]; exact hA) (by rw [hd]; exact hB) l0 l1 (by rw [l2, hd]) l3
      · show t_X d 71 22 lv [] g P
        refine t_0 qdcl_22 rfl (ld_a l0) ?_
        refine t_0 qdcl_23 rfl (cr_70_1 hJ.1) ?_
        refine t_0 qdcl_26 rfl (ld_i l3) ?_
        refine t_0 qdcl_27 rfl (pq_ia el_72 rfl ⟨by omega, by omega⟩) ?_
        show t_X d 71 28 lv [oI (fA g 72 m)] g P
        have r6 := gb_a hJ.1 el_72 (j := m) (by omega) ga_72
        refine t_0 qdcl_28 rfl (ld_i l1) ?_
        refine tb_eq qdcl_29 (by decide) ⟨by omega, by omega⟩ ⟨by omega, by omega⟩ (fun c7 => ?_) (fun c7 => ?_)
        · show t_X d 71 59 lv [] g P
          refine t_2 qdcl_59 rfl (w := (px_s1 lv 3 (oI ((m : Int) + 1)), [])) (pq_inc l3 (by decide)) ?_
          replace l0 : px_lg (px_s1 lv 3 (oI ((m : Int) + 1))) 0 = some (pvR 70) := s1_ne (by decide) (fun _ => rfl) l0
          replace l1 : px_lg (px_s1 lv 3 (oI ((m : Int) + 1))) 1 = some (oI (i)) := s1_ne (by decide) (fun _ => rfl) l1
          replace l2 : px_lg (px_s1 lv 3 (oI ((m : Int) + 1))) 2 = some (oI (((dw i (fA h0 71) (fA h0 72) m).1 : Int))) := s1_ne (by decide) (fun _ => rfl) l2
          have l3 : px_lg (px_s1 lv 3 (oI ((m : Int) + 1))) 3 = some (oI ((m : Int) + 1)) := s1_eq
          generalize px_s1 lv 3 (oI ((m : Int) + 1)) = lv8 at l0 l1 l2 l3 ⊢
          show t_X d 71 62 lv8 [] g P
          refine t_1 qdcl_62 rfl (pb_goto (pc := 62) (by decide)) ?_
          show t_X d 71 4 lv8 [] g P
          have hd := dw_f (i := i) (A := fA h0 71) (B := fA h0 72) (k := m) (by rw [← hA, ← hB]; omega)
          exact ih (m + 1) _ g (by omega) (by omega) hJ (by omega) (by rw [hd]; exact hA) (by rw [hd]; exact hB) l0 l1 (by rw [l2, hd]) l3
        · show t_X d 71 32 lv [] g P
          refine t_0 qdcl_32 rfl (ld_a l0) ?_
          refine t_0 qdcl_33 rfl (cr_70_0 hJ.1) ?_
          refine t_0 qdcl_36 rfl (ld_i l2) ?_
          refine t_0 qdcl_37 rfl (ld_a l0) ?_
          refine t_0 qdcl_38 rfl (cr_70_0 hJ.1) ?_
          refine t_0 qdcl_41 rfl (ld_i l3) ?_
          refine t_0 qdcl_42 rfl (pq_ia el_71 rfl ⟨by omega, by omega⟩) ?_
          show t_X d 71 43 lv [oI (fA g 71 m), oI (((dw i (fA h0 71) (fA h0 72) m).1 : Int)), pvR 71] g P
          have r9 := gb_a hJ.1 el_71 (j := m) (by omega) ga_71
          refine tw_i qdcl_43 hJ el_71 rfl w_a71 ga_71 ⟨by omega, by omega⟩ (rg31 ⟨by omega, by omega⟩) (fun g10 hJ10 e10 => ?_)
          have u10_71 : fA g10 71 = updI (fA g 71) (((dw i (fA h0 71) (fA h0 72) m).1 : Int)).toNat (fA g 71 m) := by rw [e10]; exact fA_pu2 ⟨by omega, by omega⟩
          have u10_72 : fA g10 72 = fA g 72 := by rw [e10]; exact fA_pn (by decide)
          have v10 : cF g10 70 2 = cF g 70 2 := by rw [e10]; rfl
          show t_X d 71 44 lv [] g10 P
          refine t_0 qdcl_44 rfl (ld_a l0) ?_
          refine t_0 qdcl_45 rfl (cr_70_1 hJ10.1) ?_
          refine t_0 qdcl_48 rfl (ld_i l2) ?_
          refine t_0 qdcl_49 rfl (ld_a l0) ?_
          refine t_0 qdcl_50 rfl (cr_70_1 hJ10.1) ?_
          refine t_0 qdcl_53 rfl (ld_i l3) ?_
          refine t_0 qdcl_54 rfl (pq_ia el_72 rfl ⟨by omega, by omega⟩) ?_
          show t_X d 71 55 lv [oI (fA g10 72 m), oI (((dw i (fA h0 71) (fA h0 72) m).1 : Int)), pvR 72] g10 P
          have r11 := gb_a hJ10.1 el_72 (j := m) (by omega) ga_72
          refine tw_i qdcl_55 hJ10 el_72 rfl w_a72 ga_72 ⟨by omega, by omega⟩ (rg31 ⟨by omega, by omega⟩) (fun g12 hJ12 e12 => ?_)
          have u12_72 : fA g12 72 = updI (fA g10 72) (((dw i (fA h0 71) (fA h0 72) m).1 : Int)).toNat (fA g10 72 m) := by rw [e12]; exact fA_pu2 ⟨by omega, by omega⟩
          have u12_71 : fA g12 71 = fA g10 71 := by rw [e12]; exact fA_pn (by decide)
          have v12 : cF g12 70 2 = cF g10 70 2 := by rw [e12]; rfl
          show t_X d 71 56 lv [] g12 P
          refine t_2 qdcl_56 rfl (w := (px_s1 lv 2 (oI (((dw i (fA h0 71) (fA h0 72) m).1 : Int) + 1)), [])) (pq_inc l2 (by decide)) ?_
          replace l0 : px_lg (px_s1 lv 2 (oI (((dw i (fA h0 71) (fA h0 72) m).1 : Int) + 1))) 0 = some (pvR 70) := s1_ne (by decide) (fun _ => rfl) l0
          replace l1 : px_lg (px_s1 lv 2 (oI (((dw i (fA h0 71) (fA h0 72) m).1 : Int) + 1))) 1 = some (oI (i)) := s1_ne (by decide) (fun _ => rfl) l1
          replace l3 : px_lg (px_s1 lv 2 (oI (((dw i (fA h0 71) (fA h0 72) m).1 : Int) + 1))) 3 = some (oI ((m : Int))) := s1_ne (by decide) (fun _ => rfl) l3
          have l2 : px_lg (px_s1 lv 2 (oI (((dw i (fA h0 71) (fA h0 72) m).1 : Int) + 1))) 2 = some (oI (((dw i (fA h0 71) (fA h0 72) m).1 : Int) + 1)) := s1_eq
          generalize px_s1 lv 2 (oI (((dw i (fA h0 71) (fA h0 72) m).1 : Int) + 1)) = lv13 at l0 l1 l3 l2 ⊢
          show t_X d 71 59 lv13 [] g12 P
          refine t_2 qdcl_59 rfl (w := (px_s1 lv13 3 (oI ((m : Int) + 1)), [])) (pq_inc l3 (by decide)) ?_
          replace l0 : px_lg (px_s1 lv13 3 (oI ((m : Int) + 1))) 0 = some (pvR 70) := s1_ne (by decide) (fun _ => rfl) l0
          replace l1 : px_lg (px_s1 lv13 3 (oI ((m : Int) + 1))) 1 = some (oI (i)) := s1_ne (by decide) (fun _ => rfl) l1
          replace l2 : px_lg (px_s1 lv13 3 (oI ((m : Int) + 1))) 2 = some (oI (((dw i (fA h0 71) (fA h0 72) m).1 : Int) + 1)) := s1_ne (by decide) (fun _ => rfl) l2
          have l3 : px_lg (px_s1 lv13 3 (oI ((m : Int) + 1))) 3 = some (oI ((m : Int) + 1)) := s1_eq
          generalize px_s1 lv13 3 (oI ((m : Int) + 1)) = lv14 at l0 l1 l2 l3 ⊢
          show t_X d 71 62 lv14 [] g12 P
          refine t_1 qdcl_62 rfl (pb_goto (pc := 62) (by decide)) ?_
          show t_X d 71 4 lv14 [] g12 P
          have hd := dw_t (i := i) (A := fA h0 71) (B := fA h0 72) (k := m) (by rw [← hA]; omega) (by rw [← hB]; omega)
          refine ih (m + 1) _ g12 (by omega) (by omega) hJ12 (by omega) ?_ ?_ l0 l1 (by rw [l2, hd]; rfl) l3
          · simp only [u12_71, u10_71]; rw [hd, hA]; rfl
          · simp only [u12_72, u10_72]; rw [hd, hB]; rfl
    · have he : m = (cF h0 70 2).toNat := by omega
      refine t_0 qdcl_4 rfl (ld_i l3) ?_
      refine t_0 qdcl_5 rfl (ld_a l0) ?_
      have r1 := cb_70_2 hJ.1
      refine t_0 qdcl_6 rfl (pq_cf (y := 2) er_70 rfl) ?_
      refine tb_ge qdcl_9 (by decide) ⟨by omega, by omega⟩ ⟨by omega, by omega⟩ (fun c2 => ?_) (fun c2 => absurd c2 (by omega))
      show t_X d 71 65 lv [] g P
      refine t_0 qdcl_65 rfl (ld_a l0) ?_
      refine t_0 qdcl_66 rfl (ld_i l2) ?_
      refine tw_c qdcl_67 er_70 rfl hJ w_70_2 gx_70_2 (by decide) ⟨by omega, by omega⟩ (fun g3 hJ3 e3 => ?_)
      have v3 : cF g3 70 2 = ((dw i (fA h0 71) (fA h0 72) m).1 : Int) := by rw [e3]; exact pc_at (by omega) (by omega)
      have u3_71 : fA g3 71 = fA g 71 := by rw [e3]; rfl
      have u3_72 : fA g3 72 = fA g 72 := by rw [e3]; rfl
      show t_X d 71 70 lv [] g3 P
      refine t_5 qdcl_70 rfl rfl ?_
      refine hP _ hJ3 ?_ ?_ ?_
      · rw [v3, he]
      · simp only [u3_71]; rw [hA, he]
      · simp only [u3_72]; rw [hB, he]
theorem dr_cl {d W : Nat} {w0 h0 : pH} (hJ : J_ W w0 h0) {i : Int} (hi : 0 ≤ i ∧ i ≤ 31) (w_a71 : W.testBit (cn 71) = true) (w_a72 : W.testBit (cn 72) = true) (w_70_2 : W.testBit (cn 70 + 2) = true) {P : Option pv × pH → Prop} (hP : ∀ g1 : pH, J_ W w0 g1 → cF g1 70 2 = ((dw i (fA h0 71) (fA h0 72) (cF h0 70 2).toNat).1 : Int) → fA g1 71 = (dw i (fA h0 71) (fA h0 72) (cF h0 70 2).toNat).2.1 → fA g1 72 = (dw i (fA h0 71) (fA h0 72) (cF h0 70 2).toNat).2.2 → P (none, g1)) {lv : List (Nat × pv)} (l0 : px_lg lv 0 = some (pvR 70)) (l1 : px_lg lv 1 = some (oI i)) : t_X d 71 0 lv [] h0 P := by
  have hc := cb_70_2 hJ.1
  refine t_0 qdcl_0 rfl rfl ?_
  refine t_2 qdcl_1 rfl (w := (px_s1 lv 2 (oI (0)), [])) rfl ?_
  replace l0 : px_lg (px_s1 lv 2 (oI (0))) 0 = some (pvR 70) := s1_ne (by decide) (fun _ => rfl) l0
  replace l1 : px_lg (px_s1 lv 2 (oI (0))) 1 = some (oI (i)) := s1_ne (by decide) (fun _ => rfl) l1
  have l2 : px_lg (px_s1 lv 2 (oI (0))) 2 = some (oI (0)) := s1_eq
  generalize px_s1 lv 2 (oI (0)) = lv1 at l0 l1 l2 ⊢
  show t_X d 71 2 lv1 [] h0 P
  refine t_0 qdcl_2 rfl rfl ?_
  refine t_2 qdcl_3 rfl (w := (px_s1 lv1 3 (oI (0)), [])) rfl ?_
  replace l0 : px_lg (px_s1 lv1 3 (oI (0))) 0 = some (pvR 70) := s1_ne (by decide) (fun _ => rfl) l0
  replace l1 : px_lg (px_s1 lv1 3 (oI (0))) 1 = some (oI (i)) := s1_ne (by decide) (fun _ => rfl) l1
  replace l2 : px_lg (px_s1 lv1 3 (oI (0))) 2 = some (oI (0)) := s1_ne (by decide) (fun _ => rfl) l2
  have l3 : px_lg (px_s1 lv1 3 (oI (0))) 3 = some (oI (0)) := s1_eq
  generalize px_s1 lv1 3 (oI (0)) = lv2 at l0 l1 l2 l3 ⊢
  show t_X d 71 4 lv2 [] h0 P
  exact dl_cl hi w_a71 w_a72 w_70_2 hP 24 0 _ _ (by omega) (by omega) hJ rfl rfl rfl l0 l1 l2 l3
set_option maxHeartbeats 4000000 in
theorem dl_li {d W : Nat} {w0 h0 : pH} {i : Int} (hi : 0 ≤ i ∧ i ≤ 31) (w_a74 : W.testBit (cn 74) = true) (w_a75 : W.testBit (cn 75) = true) (w_73_2 : W.testBit (cn 73 + 2) = true) {P : Option pv × pH → Prop} (hP : ∀ g1 : pH, J_ W w0 g1 → cF g1 73 2 = ((dw i (fA h0 74) (fA h0 75) (cF h0 73 2).toNat).1 : Int) → fA g1 74 = (dw i (fA h0 74) (fA h0 75) (cF h0 73 2).toNat).2.1 → fA g1 75 = (dw i (fA h0 74) (fA h0 75) (cF h0 73 2).toNat).2.2 → P (none, g1)) : ∀ (n m : Nat) (lv : List (Nat × pv)) (g : pH), (cF h0 73 2).toNat - m ≤ n → m ≤ (cF h0 73 2).toNat → J_ W w0 g → cF g 73 2 = cF h0 73 2 → fA g 74 = (dw i (fA h0 74) (fA h0 75) m).2.1 → fA g 75 = (dw i (fA h0 74) (fA h0 75) m).2.2 → px_lg lv 0 = some (pvR 73) → px_lg lv 1 = some (oI i) → px_lg lv 2 = some (oI ((dw i (fA h0 74) (fA h0 75) m).1 : Int)) → px_lg lv 3 = some (oI (m : Int)) → t_X d 71 4 lv [] g P := by
  intro n
  induction n with
  | zero =>
    intro m lv g hn hm hJ hz hA hB l0 l1 l2 l3
    have hc := cb_73_2 hJ.1
    have hle := dw_le (i := i) (A := fA h0 74) (B := fA h0 75) m
    have he : m = (cF h0 73 2).toNat := by omega
    refine t_0 qdli_4 rfl (ld_i l3) ?_
    refine t_0 qdli_5 rfl (ld_a l0) ?_
    have r1 := cb_73_2 hJ.1
    refine t_0 qdli_6 rfl (pq_cf (y := 2) er_73 rfl) ?_
    refine tb_ge qdli_9 (by decide) ⟨by omega, by omega⟩ ⟨by omega, by omega⟩ (fun c2 => ?_) (fun c2 => absurd c2 (by omega))
    show t_X d 71 65 lv [] g P
    refine t_0 qdli_65 rfl (ld_a l0) ?_
    refine t_0 qdli_66 rfl (ld_i l2) ?_
    refine tw_c qdli_67 er_73 rfl hJ w_73_2 gx_73_2 (by decide) ⟨by omega, by omega⟩ (fun g3 hJ3 e3 => ?_)
    have v3 : cF g3 73 2 = ((dw i (fA h0 74) (fA h0 75) m).1 : Int) := by rw [e3]; exact pc_at (by omega) (by omega)
    have u3_74 : fA g3 74 = fA g 74 := by rw [e3]; rfl
    have u3_75 : fA g3 75 = fA g 75 := by rw [e3]; rfl
    show t_X d 71 70 lv [] g3 P
    refine t_5 qdli_70 rfl rfl ?_
    refine hP _ hJ3 ?_ ?_ ?_
    · rw [v3, he]
    · simp only [u3_74]; rw [hA, he]
    · simp only [u3_75]; rw [hB, he]
  | succ n ih =>
    intro m lv g hn hm hJ hz hA hB l0 l1 l2 l3
    have hc := cb_73_2 hJ.1
    have hle := dw_le (i := i) (A := fA h0 74) (B := fA h0 75) m
    by_cases hlt : m < (cF h0 73 2).toNat
    · skip
      refine t_0 qdli_4 rfl (ld_i l3) ?_
      refine t_0 qdli_5 rfl (ld_a l0) ?_
      have r1 := cb_73_2 hJ.1
      refine t_0 qdli_6 rfl (pq_cf (y := 2) er_73 rfl) ?_
      refine tb_ge qdli_9 (by decide) ⟨by omega, by omega⟩ ⟨by omega, by omega⟩ (fun c2 => absurd c2 (by omega)) (fun c2 => ?_)
      show t_X d 71 12 lv [] g P
      refine t_0 qdli_12 rfl (ld_a l0) ?_
      refine t_0 qdli_13 rfl (cr_73_0 hJ.1) ?_
      refine t_0 qdli_16 rfl (ld_i l3) ?_
      refine t_0 qdli_17 rfl (pq_ia el_74 rfl ⟨by omega, by omega⟩) ?_
      show t_X d 71 18 lv [oI (fA g 74 m)] g P
      have r3 := gb_a hJ.1 el_74 (j := m) (by omega) ga_74
      refine t_0 qdli_18 rfl (ld_i l1) ?_
      refine tb_eq qdli_19 (by decide) ⟨by omega, by omega⟩ ⟨by omega, by omega⟩ (fun c4 => ?_) (fun c4 => ?_)
      · show t_X d 71 59 lv [] g P
        refine t_2 qdli_59 rfl (w := (px_s1 lv 3 (oI ((m : Int) + 1)), [])) (pq_inc l3 (by decide)) ?_
        replace l0 : px_lg (px_s1 lv 3 (oI ((m : Int) + 1))) 0 = some (pvR 73) := s1_ne (by decide) (fun _ => rfl) l0
        replace l1 : px_lg (px_s1 lv 3 (oI ((m : Int) + 1))) 1 = some (oI (i)) := s1_ne (by decide) (fun _ => rfl) l1
        replace l2 : px_lg (px_s1 lv 3 (oI ((m : Int) + 1))) 2 = some (oI (((dw i (fA h0 74) (fA h0 75) m).1 : Int))) := s1_ne (by decide) (fun _ => rfl) l2
        have l3 : px_lg (px_s1 lv 3 (oI ((m : Int) + 1))) 3 = some (oI ((m : Int) + 1)) := s1_eq
        generalize px_s1 lv 3 (oI ((m : Int) + 1)) = lv5 at l0 l1 l2 l3 ⊢
        show t_X d 71 62 lv5 [] g P
        refine t_1 qdli_62 rfl (pb_goto (pc := 62) (by decide)) ?_
        show t_X d 71 4 lv5 [] g P
        have hd := dw_f (i := i) (A := fA h0 74) (B := fA h0 75) (k := m) (by rw [← hA, ← hB]; omega)
        exact ih (m + 1) _ g (by omega) (by omega) hJ (by omega) (by rw [hd]; exact hA) (by rw [hd]; exact hB) l0 l1 (by rw [l2, hd]) l3
      · show t_X d 71 22 lv [] g P
        refine t_0 qdli_22 rfl (ld_a l0) ?_
        refine t_0 qdli_23 rfl (cr_73_1 hJ.1) ?_
        refine t_0 qdli_26 rfl (ld_i l3) ?_
        refine t_0 qdli_27 rfl (pq_ia el_75 rfl ⟨by omega, by omega⟩) ?_
        show t_X d 71 28 lv [oI (fA g 75 m)] g P
        have r6 := gb_a hJ.1 el_75 (j := m) (by omega) ga_75
        refine t_0 qdli_28 rfl (ld_i l1) ?_
        refine tb_eq qdli_29 (by decide) ⟨by omega, by omega⟩ ⟨by omega, by omega⟩ (fun c7 => ?_) (fun c7 => ?_)
        · show t_X d 71 59 lv [] g P
          refine t_2 qdli_59 rfl (w := (px_s1 lv 3 (oI ((m : Int) + 1)), [])) (pq_inc l3 (by decide)) ?_
          replace l0 : px_lg (px_s1 lv 3 (oI ((m : Int) + 1))) 0 = some (pvR 73) := s1_ne (by decide) (fun _ => rfl) l0
          replace l1 : px_lg (px_s1 lv 3 (oI ((m : Int) + 1))) 1 = some (oI (i)) := s1_ne (by decide) (fun _ => rfl) l1
          replace l2 : px_lg (px_s1 lv 3 (oI ((m : Int) + 1))) 2 = some (oI (((dw i (fA h0 74) (fA h0 75) m).1 : Int))) := s1_ne (by decide) (fun _ => rfl) l2
          have l3 : px_lg (px_s1 lv 3 (oI ((m : Int) + 1))) 3 = some (oI ((m : Int) + 1)) := s1_eq
          generalize px_s1 lv 3 (oI ((m : Int) + 1)) = lv8 at l0 l1 l2 l3 ⊢
          show t_X d 71 62 lv8 [] g P
          refine t_1 qdli_62 rfl (pb_goto (pc := 62) (by decide)) ?_
          show t_X d 71 4 lv8 [] g P
          have hd := dw_f (i := i) (A := fA h0 74) (B := fA h0 75) (k := m) (by rw [← hA, ← hB]; omega)
          exact ih (m + 1) _ g (by omega) (by omega) hJ (by omega) (by rw [hd]; exact hA) (by rw [hd]; exact hB) l0 l1 (by rw [l2, hd]) l3
        · show t_X d 71 32 lv [] g P
          refine t_0 qdli_32 rfl (ld_a l0) ?_
          refine t_0 qdli_33 rfl (cr_73_0 hJ.1) ?_
          refine t_0 qdli_36 rfl (ld_i l2) ?_
          refine t_0 qdli_37 rfl (ld_a l0) ?_
          refine t_0 qdli_38 rfl (cr_73_0 hJ.1) ?_
          refine t_0 qdli_41 rfl (ld_i l3) ?_
          refine t_0 qdli_42 rfl (pq_ia el_74 rfl ⟨by omega, by omega⟩) ?_
          show t_X d 71 43 lv [oI (fA g 74 m), oI (((dw i (fA h0 74) (fA h0 75) m).1 : Int)), pvR 74] g P
          have r9 := gb_a hJ.1 el_74 (j := m) (by omega) ga_74
          refine tw_i qdli_43 hJ el_74 rfl w_a74 ga_74 ⟨by omega, by omega⟩ (rg31 ⟨by omega, by omega⟩) (fun g10 hJ10 e10 => ?_)
          have u10_74 : fA g10 74 = updI (fA g 74) (((dw i (fA h0 74) (fA h0 75) m).1 : Int)).toNat (fA g 74 m) := by rw [e10]; exact fA_pu2 ⟨by omega, by omega⟩
          have u10_75 : fA g10 75 = fA g 75 := by rw [e10]; exact fA_pn (by decide)
          have v10 : cF g10 73 2 = cF g 73 2 := by rw [e10]; rfl
          show t_X d 71 44 lv [] g10 P
          refine t_0 qdli_44 rfl (ld_a l0) ?_
          refine t_0 qdli_45 rfl (cr_73_1 hJ10.1) ?_
          refine t_0 qdli_48 rfl (ld_i l2) ?_
          refine t_0 qdli_49 rfl (ld_a l0) ?_
          refine t_0 qdli_50 rfl (cr_73_1 hJ10.1) ?_
          refine t_0 qdli_53 rfl (ld_i l3) ?_
          refine t_0 qdli_54 rfl (pq_ia el_75 rfl ⟨by omega, by omega⟩) ?_
          show t_X d 71 55 lv [oI (fA g10 75 m), oI (((dw i (fA h0 74) (fA h0 75) m).1 : Int)), pvR 75] g10 P
          have r11 := gb_a hJ10.1 el_75 (j := m) (by omega) ga_75
          refine tw_i qdli_55 hJ10 el_75 rfl w_a75 ga_75 ⟨by omega, by omega⟩ (rg31 ⟨by omega, by omega⟩) (fun g12 hJ12 e12 => ?_)
          have u12_75 : fA g12 75 = updI (fA g10 75) (((dw i (fA h0 74) (fA h0 75) m).1 : Int)).toNat (fA g10 75 m) := by rw [e12]; exact fA_pu2 ⟨by omega, by omega⟩
          have u12_74 : fA g12 74 = fA g10 74 := by rw [e12]; exact fA_pn (by decide)
          have v12 : cF g12 73 2 = cF g10 73 2 := by rw [e12]; rfl
          show t_X d 71 56 lv [] g12 P
          refine t_2 qdli_56 rfl (w := (px_s1 lv 2 (oI (((dw i (fA h0 74) (fA h0 75) m).1 : Int) + 1)), [])) (pq_inc l2 (by decide)) ?_
          replace l0 : px_lg (px_s1 lv 2 (oI (((dw i (fA h0 74) (fA h0 75) m).1 : Int) + 1))) 0 = some (pvR 73) := s1_ne (by decide) (fun _ => rfl) l0
          replace l1 : px_lg (px_s1 lv 2 (oI (((dw i (fA h0 74) (fA h0 75) m).1 : Int) + 1))) 1 = some (oI (i)) := s1_ne (by decide) (fun _ => rfl) l1
          replace l3 : px_lg (px_s1 lv 2 (oI (((dw i (fA h0 74) (fA h0 75) m).1 : Int) + 1))) 3 = some (oI ((m : Int))) := s1_ne (by decide) (fun _ => rfl) l3
          have l2 : px_lg (px_s1 lv 2 (oI (((dw i (fA h0 74) (fA h0 75) m).1 : Int) + 1))) 2 = some (oI (((dw i (fA h0 74) (fA h0 75) m).1 : Int) + 1)) := s1_eq
          generalize px_s1 lv 2 (oI (((dw i (fA h0 74) (fA h0 75) m).1 : Int) + 1)) = lv13 at l0 l1 l3 l2 ⊢
          show t_X d 71 59 lv13 [] g12 P
          refine t_2 qdli_59 rfl (w := (px_s1 lv13 3 (oI ((m : Int) + 1)), [])) (pq_inc l3 (by decide)) ?_
          replace l0 : px_lg (px_s1 lv13 3 (oI ((m : Int) + 1))) 0 = some (pvR 73) := s1_ne (by decide) (fun _ => rfl) l0
          replace l1 : px_lg (px_s1 lv13 3 (oI ((m : Int) + 1))) 1 = some (oI (i)) := s1_ne (by decide) (fun _ => rfl) l1
          replace l2 : px_lg (px_s1 lv13 3 (oI ((m : Int) + 1))) 2 = some (oI (((dw i (fA h0 74) (fA h0 75) m).1 : Int) + 1)) := s1_ne (by decide) (fun _ => rfl) l2
          have l3 : px_lg (px_s1 lv13 3 (oI ((m : Int) + 1))) 3 = some (oI ((m : Int) + 1)) := s1_eq
          generalize px_s1 lv13 3 (oI ((m : Int) + 1)) = lv14 at l0 l1 l2 l3 ⊢
          show t_X d 71 62 lv14 [] g12 P
          refine t_1 qdli_62 rfl (pb_goto (pc := 62) (by decide)) ?_
          show t_X d 71 4 lv14 [] g12 P
          have hd := dw_t (i := i) (A := fA h0 74) (B := fA h0 75) (k := m) (by rw [← hA]; omega) (by rw [← hB]; omega)
          refine ih (m + 1) _ g12 (by omega) (by omega) hJ12 (by omega) ?_ ?_ l0 l1 (by rw [l2, hd]; rfl) l3
          · simp only [u12_74, u10_74]; rw [hd, hA]; rfl
          · simp only [u12_75, u10_75]; rw [hd, hB]; rfl
    · have he : m = (cF h0 73 2).toNat := by omega
      refine t_0 qdli_4 rfl (ld_i l3) ?_
      refine t_0 qdli_5 rfl (ld_a l0) ?_
      have r1 := cb_73_2 hJ.1
      refine t_0 qdli_6 rfl (pq_cf (y := 2) er_73 rfl) ?_
      refine tb_ge qdli_9 (by decide) ⟨by omega, by omega⟩ ⟨by omega, by omega⟩ (fun c2 => ?_) (fun c2 => absurd c2 (by omega))
      show t_X d 71 65 lv [] g P
      refine t_0 qdli_65 rfl (ld_a l0) ?_
      refine t_0 qdli_66 rfl (ld_i l2) ?_
      refine tw_c qdli_67 er_73 rfl hJ w_73_2 gx_73_2 (by decide) ⟨by omega, by omega⟩ (fun g3 hJ3 e3 => ?_)
      have v3 : cF g3 73 2 = ((dw i (fA h0 74) (fA h0 75) m).1 : Int) := by rw [e3]; exact pc_at (by omega) (by omega)
      have u3_74 : fA g3 74 = fA g 74 := by rw [e3]; rfl
      have u3_75 : fA g3 75 = fA g 75 := by rw [e3]; rfl
      show t_X d 71 70 lv [] g3 P
      refine t_5 qdli_70 rfl rfl ?_
      refine hP _ hJ3 ?_ ?_ ?_
      · rw [v3, he]
      · simp only [u3_74]; rw [hA, he]
      · simp only [u3_75]; rw [hB, he]
theorem dr_li {d W : Nat} {w0 h0 : pH} (hJ : J_ W w0 h0) {i : Int} (hi : 0 ≤ i ∧ i ≤ 31) (w_a74 : W.testBit (cn 74) = true) (w_a75 : W.testBit (cn 75) = true) (w_73_2 : W.testBit (cn 73 + 2) = true) {P : Option pv × pH → Prop} (hP : ∀ g1 : pH, J_ W w0 g1 → cF g1 73 2 = ((dw i (fA h0 74) (fA h0 75) (cF h0 73 2).toNat).1 : Int) → fA g1 74 = (dw i (fA h0 74) (fA h0 75) (cF h0 73 2).toNat).2.1 → fA g1 75 = (dw i (fA h0 74) (fA h0 75) (cF h0 73 2).toNat).2.2 → P (none, g1)) {lv : List (Nat × pv)} (l0 : px_lg lv 0 = some (pvR 73)) (l1 : px_lg lv 1 = some (oI i)) : t_X d 71 0 lv [] h0 P := by
  have hc := cb_73_2 hJ.1
  refine t_0 qdli_0 rfl rfl ?_
  refine t_2 qdli_1 rfl (w := (px_s1 lv 2 (oI (0)), [])) rfl ?_
  replace l0 : px_lg (px_s1 lv 2 (oI (0))) 0 = some (pvR 73) := s1_ne (by decide) (fun _ => rfl) l0
  replace l1 : px_lg (px_s1 lv 2 (oI (0))) 1 = some (oI (i)) := s1_ne (by decide) (fun _ => rfl) l1
  have l2 : px_lg (px_s1 lv 2 (oI (0))) 2 = some (oI (0)) := s1_eq
  generalize px_s1 lv 2 (oI (0)) = lv1 at l0 l1 l2 ⊢
  show t_X d 71 2 lv1 [] h0 P
  refine t_0 qdli_2 rfl rfl ?_
  refine t_2 qdli_3 rfl (w := (px_s1 lv1 3 (oI (0)), [])) rfl ?_
  replace l0 : px_lg (px_s1 lv1 3 (oI (0))) 0 = some (pvR 73) := s1_ne (by decide) (fun _ => rfl) l0
  replace l1 : px_lg (px_s1 lv1 3 (oI (0))) 1 = some (oI (i)) := s1_ne (by decide) (fun _ => rfl) l1
  replace l2 : px_lg (px_s1 lv1 3 (oI (0))) 2 = some (oI (0)) := s1_ne (by decide) (fun _ => rfl) l2
  have l3 : px_lg (px_s1 lv1 3 (oI (0))) 3 = some (oI (0)) := s1_eq
  generalize px_s1 lv1 3 (oI (0)) = lv2 at l0 l1 l2 l3 ⊢
  show t_X d 71 4 lv2 [] h0 P
  exact dl_li hi w_a74 w_a75 w_73_2 hP 12 0 _ _ (by omega) (by omega) hJ rfl rfl rfl l0 l1 l2 l3
end
section
/-! the tie: rows of twos: the class (printed by wip/e2/t15.py) -/
theorem qccl_0 : xe_look (xc 111) 0 = some (.aload_n 0, 1, 0, 0, 0) := by decide +kernel
theorem qccl_1 : xe_look (xc 111) 1 = some (.getfield 16, 3, 11, 2, 983) := by decide +kernel
theorem qccl_4 : xe_look (xc 111) 4 = some (.iload_n 1, 1, 0, 0, 0) := by decide +kernel
theorem qccl_5 : xe_look (xc 111) 5 = some (.invokevirtual 107, 3, 0, 84, 984) := by decide +kernel
theorem qccl_8 : xe_look (xc 111) 8 = some (.ifnull 19, 3, 0, 0, 0) := by decide +kernel
theorem qccl_11 : xe_look (xc 111) 11 = some (.aload_n 0, 1, 0, 0, 0) := by decide +kernel
theorem qccl_12 : xe_look (xc 111) 12 = some (.getfield 16, 3, 11, 2, 983) := by decide +kernel
theorem qccl_15 : xe_look (xc 111) 15 = some (.iload_n 2, 1, 0, 0, 0) := by decide +kernel
theorem qccl_16 : xe_look (xc 111) 16 = some (.invokevirtual 107, 3, 0, 84, 984) := by decide +kernel
theorem qccl_19 : xe_look (xc 111) 19 = some (.ifnull 8, 3, 0, 0, 0) := by decide +kernel
theorem qccl_22 : xe_look (xc 111) 22 = some (.iload_n 1, 1, 0, 0, 0) := by decide +kernel
theorem qccl_23 : xe_look (xc 111) 23 = some (.iload_n 2, 1, 0, 0, 0) := by decide +kernel
theorem qccl_24 : xe_look (xc 111) 24 = some (.if_icmp .ne 5, 3, 0, 0, 0) := by decide +kernel
theorem qccl_27 : xe_look (xc 111) 27 = some (.iconst (-1), 1, 0, 0, 0) := by decide +kernel
theorem qccl_28 : xe_look (xc 111) 28 = some (.ireturn, 1, 0, 0, 0) := by decide +kernel
theorem qccl_29 : xe_look (xc 111) 29 = some (.aload_n 0, 1, 0, 0, 0) := by decide +kernel
theorem qccl_30 : xe_look (xc 111) 30 = some (.getfield 16, 3, 11, 2, 983) := by decide +kernel
theorem qccl_33 : xe_look (xc 111) 33 = some (.getfield 128, 3, 8, 5, 988) := by decide +kernel
theorem qccl_36 : xe_look (xc 111) 36 = some (.iload_n 1, 1, 0, 0, 0) := by decide +kernel
theorem qccl_37 : xe_look (xc 111) 37 = some (.iload_n 2, 1, 0, 0, 0) := by decide +kernel
theorem qccl_38 : xe_look (xc 111) 38 = some (.invokevirtual 335, 3, 0, 69, 989) := by decide +kernel
theorem qccl_41 : xe_look (xc 111) 41 = some (.ireturn, 1, 0, 0, 0) := by decide +kernel
theorem qcli_0 : xe_look (xc 133) 0 = some (.aload_n 0, 1, 0, 0, 0) := by decide +kernel
theorem qcli_1 : xe_look (xc 133) 1 = some (.getfield 16, 3, 11, 2, 983) := by decide +kernel
theorem qcli_4 : xe_look (xc 133) 4 = some (.iload_n 1, 1, 0, 0, 0) := by decide +kernel
theorem qcli_5 : xe_look (xc 133) 5 = some (.invokevirtual 107, 3, 0, 84, 984) := by decide +kernel
theorem qcli_8 : xe_look (xc 133) 8 = some (.ifnull 19, 3, 0, 0, 0) := by decide +kernel
theorem qcli_11 : xe_look (xc 133) 11 = some (.aload_n 0, 1, 0, 0, 0) := by decide +kernel
theorem qcli_12 : xe_look (xc 133) 12 = some (.getfield 16, 3, 11, 2, 983) := by decide +kernel
theorem qcli_15 : xe_look (xc 133) 15 = some (.iload_n 2, 1, 0, 0, 0) := by decide +kernel
theorem qcli_16 : xe_look (xc 133) 16 = some (.invokevirtual 107, 3, 0, 84, 984) := by decide +kernel
theorem qcli_19 : xe_look (xc 133) 19 = some (.ifnull 8, 3, 0, 0, 0) := by decide +kernel
theorem qcli_22 : xe_look (xc 133) 22 = some (.iload_n 1, 1, 0, 0, 0) := by decide +kernel
theorem qcli_23 : xe_look (xc 133) 23 = some (.iload_n 2, 1, 0, 0, 0) := by decide +kernel
theorem qcli_24 : xe_look (xc 133) 24 = some (.if_icmp .ne 5, 3, 0, 0, 0) := by decide +kernel
theorem qcli_27 : xe_look (xc 133) 27 = some (.iconst (-1), 1, 0, 0, 0) := by decide +kernel
theorem qcli_28 : xe_look (xc 133) 28 = some (.ireturn, 1, 0, 0, 0) := by decide +kernel
theorem qcli_29 : xe_look (xc 133) 29 = some (.aload_n 0, 1, 0, 0, 0) := by decide +kernel
theorem qcli_30 : xe_look (xc 133) 30 = some (.getfield 16, 3, 11, 2, 983) := by decide +kernel
theorem qcli_33 : xe_look (xc 133) 33 = some (.getfield 137, 3, 8, 6, 1009) := by decide +kernel
theorem qcli_36 : xe_look (xc 133) 36 = some (.iload_n 1, 1, 0, 0, 0) := by decide +kernel
theorem qcli_37 : xe_look (xc 133) 37 = some (.iload_n 2, 1, 0, 0, 0) := by decide +kernel
theorem qcli_38 : xe_look (xc 133) 38 = some (.invokevirtual 335, 3, 0, 69, 989) := by decide +kernel
theorem qcli_41 : xe_look (xc 133) 41 = some (.ireturn, 1, 0, 0, 0) := by decide +kernel
theorem qk144_0 : xe_look (xc 70) 0 = some (.aload_n 0, 1, 0, 0, 0) := by decide +kernel
theorem qk144_1 : xe_look (xc 70) 1 = some (.aload_n 1, 1, 0, 0, 0) := by decide +kernel
theorem qk144_2 : xe_look (xc 70) 2 = some (.getfield 24, 3, 6, 2, 903) := by decide +kernel
theorem qk144_5 : xe_look (xc 70) 5 = some (.aload_n 0, 1, 0, 0, 0) := by decide +kernel
theorem qk144_6 : xe_look (xc 70) 6 = some (.getfield 15, 3, 6, 0, 904) := by decide +kernel
theorem qk144_9 : xe_look (xc 70) 9 = some (.arraylength, 1, 0, 0, 0) := by decide +kernel
theorem qk144_10 : xe_look (xc 70) 10 = some (.invokestatic 28, 3, 3, 0, 906) := by decide +kernel
theorem qk144_13 : xe_look (xc 70) 13 = some (.putfield 24, 3, 6, 2, 903) := by decide +kernel
theorem qk144_16 : xe_look (xc 70) 16 = some (.aload_n 1, 1, 0, 0, 0) := by decide +kernel
theorem qk144_17 : xe_look (xc 70) 17 = some (.getfield 15, 3, 6, 0, 904) := by decide +kernel
theorem qk144_20 : xe_look (xc 70) 20 = some (.iconst 0, 1, 0, 0, 0) := by decide +kernel
theorem qk144_21 : xe_look (xc 70) 21 = some (.aload_n 0, 1, 0, 0, 0) := by decide +kernel
theorem qk144_22 : xe_look (xc 70) 22 = some (.getfield 15, 3, 6, 0, 904) := by decide +kernel
theorem qk144_25 : xe_look (xc 70) 25 = some (.iconst 0, 1, 0, 0, 0) := by decide +kernel
theorem qk144_26 : xe_look (xc 70) 26 = some (.aload_n 0, 1, 0, 0, 0) := by decide +kernel
theorem qk144_27 : xe_look (xc 70) 27 = some (.getfield 24, 3, 6, 2, 903) := by decide +kernel
theorem qk144_30 : xe_look (xc 70) 30 = some (.invokestatic 31, 3, 5, 0, 907) := by decide +kernel
theorem qk144_33 : xe_look (xc 70) 33 = some (.aload_n 1, 1, 0, 0, 0) := by decide +kernel
theorem qk144_34 : xe_look (xc 70) 34 = some (.getfield 21, 3, 6, 1, 905) := by decide +kernel
theorem qk144_37 : xe_look (xc 70) 37 = some (.iconst 0, 1, 0, 0, 0) := by decide +kernel
theorem qk144_38 : xe_look (xc 70) 38 = some (.aload_n 0, 1, 0, 0, 0) := by decide +kernel
theorem qk144_39 : xe_look (xc 70) 39 = some (.getfield 21, 3, 6, 1, 905) := by decide +kernel
theorem qk144_42 : xe_look (xc 70) 42 = some (.iconst 0, 1, 0, 0, 0) := by decide +kernel
theorem qk144_43 : xe_look (xc 70) 43 = some (.aload_n 0, 1, 0, 0, 0) := by decide +kernel
theorem qk144_44 : xe_look (xc 70) 44 = some (.getfield 24, 3, 6, 2, 903) := by decide +kernel
theorem qk144_47 : xe_look (xc 70) 47 = some (.invokestatic 31, 3, 5, 0, 907) := by decide +kernel
theorem qk144_50 : xe_look (xc 70) 50 = some (.return_, 1, 0, 0, 0) := by decide +kernel
theorem qk147_0 : xe_look (xc 70) 0 = some (.aload_n 0, 1, 0, 0, 0) := by decide +kernel
theorem qk147_1 : xe_look (xc 70) 1 = some (.aload_n 1, 1, 0, 0, 0) := by decide +kernel
theorem qk147_2 : xe_look (xc 70) 2 = some (.getfield 24, 3, 6, 2, 903) := by decide +kernel
theorem qk147_5 : xe_look (xc 70) 5 = some (.aload_n 0, 1, 0, 0, 0) := by decide +kernel
theorem qk147_6 : xe_look (xc 70) 6 = some (.getfield 15, 3, 6, 0, 904) := by decide +kernel
theorem qk147_9 : xe_look (xc 70) 9 = some (.arraylength, 1, 0, 0, 0) := by decide +kernel
theorem qk147_10 : xe_look (xc 70) 10 = some (.invokestatic 28, 3, 3, 0, 906) := by decide +kernel
theorem qk147_13 : xe_look (xc 70) 13 = some (.putfield 24, 3, 6, 2, 903) := by decide +kernel
theorem qk147_16 : xe_look (xc 70) 16 = some (.aload_n 1, 1, 0, 0, 0) := by decide +kernel
theorem qk147_17 : xe_look (xc 70) 17 = some (.getfield 15, 3, 6, 0, 904) := by decide +kernel
theorem qk147_20 : xe_look (xc 70) 20 = some (.iconst 0, 1, 0, 0, 0) := by decide +kernel
theorem qk147_21 : xe_look (xc 70) 21 = some (.aload_n 0, 1, 0, 0, 0) := by decide +kernel
theorem qk147_22 : xe_look (xc 70) 22 = some (.getfield 15, 3, 6, 0, 904) := by decide +kernel
theorem qk147_25 : xe_look (xc 70) 25 = some (.iconst 0, 1, 0, 0, 0) := by decide +kernel
theorem qk147_26 : xe_look (xc 70) 26 = some (.aload_n 0, 1, 0, 0, 0) := by decide +kernel
theorem qk147_27 : xe_look (xc 70) 27 = some (.getfield 24, 3, 6, 2, 903) := by decide +kernel
theorem qk147_30 : xe_look (xc 70) 30 = some (.invokestatic 31, 3, 5, 0, 907) := by decide +kernel
theorem qk147_33 : xe_look (xc 70) 33 = some (.aload_n 1, 1, 0, 0, 0) := by decide +kernel
theorem qk147_34 : xe_look (xc 70) 34 = some (.getfield 21, 3, 6, 1, 905) := by decide +kernel
theorem qk147_37 : xe_look (xc 70) 37 = some (.iconst 0, 1, 0, 0, 0) := by decide +kernel
theorem qk147_38 : xe_look (xc 70) 38 = some (.aload_n 0, 1, 0, 0, 0) := by decide +kernel
theorem qk147_39 : xe_look (xc 70) 39 = some (.getfield 21, 3, 6, 1, 905) := by decide +kernel
theorem qk147_42 : xe_look (xc 70) 42 = some (.iconst 0, 1, 0, 0, 0) := by decide +kernel
theorem qk147_43 : xe_look (xc 70) 43 = some (.aload_n 0, 1, 0, 0, 0) := by decide +kernel
theorem qk147_44 : xe_look (xc 70) 44 = some (.getfield 24, 3, 6, 2, 903) := by decide +kernel
theorem qk147_47 : xe_look (xc 70) 47 = some (.invokestatic 31, 3, 5, 0, 907) := by decide +kernel
theorem qk147_50 : xe_look (xc 70) 50 = some (.return_, 1, 0, 0, 0) := by decide +kernel
theorem qk70_0 : xe_look (xc 70) 0 = some (.aload_n 0, 1, 0, 0, 0) := by decide +kernel
theorem qk70_1 : xe_look (xc 70) 1 = some (.aload_n 1, 1, 0, 0, 0) := by decide +kernel
theorem qk70_2 : xe_look (xc 70) 2 = some (.getfield 24, 3, 6, 2, 903) := by decide +kernel
theorem qk70_5 : xe_look (xc 70) 5 = some (.aload_n 0, 1, 0, 0, 0) := by decide +kernel
theorem qk70_6 : xe_look (xc 70) 6 = some (.getfield 15, 3, 6, 0, 904) := by decide +kernel
theorem qk70_9 : xe_look (xc 70) 9 = some (.arraylength, 1, 0, 0, 0) := by decide +kernel
theorem qk70_10 : xe_look (xc 70) 10 = some (.invokestatic 28, 3, 3, 0, 906) := by decide +kernel
theorem qk70_13 : xe_look (xc 70) 13 = some (.putfield 24, 3, 6, 2, 903) := by decide +kernel
theorem qk70_16 : xe_look (xc 70) 16 = some (.aload_n 1, 1, 0, 0, 0) := by decide +kernel
theorem qk70_17 : xe_look (xc 70) 17 = some (.getfield 15, 3, 6, 0, 904) := by decide +kernel
theorem qk70_20 : xe_look (xc 70) 20 = some (.iconst 0, 1, 0, 0, 0) := by decide +kernel
theorem qk70_21 : xe_look (xc 70) 21 = some (.aload_n 0, 1, 0, 0, 0) := by decide +kernel
theorem qk70_22 : xe_look (xc 70) 22 = some (.getfield 15, 3, 6, 0, 904) := by decide +kernel
theorem qk70_25 : xe_look (xc 70) 25 = some (.iconst 0, 1, 0, 0, 0) := by decide +kernel
theorem qk70_26 : xe_look (xc 70) 26 = some (.aload_n 0, 1, 0, 0, 0) := by decide +kernel
theorem qk70_27 : xe_look (xc 70) 27 = some (.getfield 24, 3, 6, 2, 903) := by decide +kernel
theorem qk70_30 : xe_look (xc 70) 30 = some (.invokestatic 31, 3, 5, 0, 907) := by decide +kernel
theorem qk70_33 : xe_look (xc 70) 33 = some (.aload_n 1, 1, 0, 0, 0) := by decide +kernel
theorem qk70_34 : xe_look (xc 70) 34 = some (.getfield 21, 3, 6, 1, 905) := by decide +kernel
theorem qk70_37 : xe_look (xc 70) 37 = some (.iconst 0, 1, 0, 0, 0) := by decide +kernel
theorem qk70_38 : xe_look (xc 70) 38 = some (.aload_n 0, 1, 0, 0, 0) := by decide +kernel
theorem qk70_39 : xe_look (xc 70) 39 = some (.getfield 21, 3, 6, 1, 905) := by decide +kernel
theorem qk70_42 : xe_look (xc 70) 42 = some (.iconst 0, 1, 0, 0, 0) := by decide +kernel
theorem qk70_43 : xe_look (xc 70) 43 = some (.aload_n 0, 1, 0, 0, 0) := by decide +kernel
theorem qk70_44 : xe_look (xc 70) 44 = some (.getfield 24, 3, 6, 2, 903) := by decide +kernel
theorem qk70_47 : xe_look (xc 70) 47 = some (.invokestatic 31, 3, 5, 0, 907) := by decide +kernel
theorem qk70_50 : xe_look (xc 70) 50 = some (.return_, 1, 0, 0, 0) := by decide +kernel
theorem qk73_0 : xe_look (xc 70) 0 = some (.aload_n 0, 1, 0, 0, 0) := by decide +kernel
theorem qk73_1 : xe_look (xc 70) 1 = some (.aload_n 1, 1, 0, 0, 0) := by decide +kernel
theorem qk73_2 : xe_look (xc 70) 2 = some (.getfield 24, 3, 6, 2, 903) := by decide +kernel
theorem qk73_5 : xe_look (xc 70) 5 = some (.aload_n 0, 1, 0, 0, 0) := by decide +kernel
theorem qk73_6 : xe_look (xc 70) 6 = some (.getfield 15, 3, 6, 0, 904) := by decide +kernel
theorem qk73_9 : xe_look (xc 70) 9 = some (.arraylength, 1, 0, 0, 0) := by decide +kernel
theorem qk73_10 : xe_look (xc 70) 10 = some (.invokestatic 28, 3, 3, 0, 906) := by decide +kernel
theorem qk73_13 : xe_look (xc 70) 13 = some (.putfield 24, 3, 6, 2, 903) := by decide +kernel
theorem qk73_16 : xe_look (xc 70) 16 = some (.aload_n 1, 1, 0, 0, 0) := by decide +kernel
theorem qk73_17 : xe_look (xc 70) 17 = some (.getfield 15, 3, 6, 0, 904) := by decide +kernel
theorem qk73_20 : xe_look (xc 70) 20 = some (.iconst 0, 1, 0, 0, 0) := by decide +kernel
theorem qk73_21 : xe_look (xc 70) 21 = some (.aload_n 0, 1, 0, 0, 0) := by decide +kernel
theorem qk73_22 : xe_look (xc 70) 22 = some (.getfield 15, 3, 6, 0, 904) := by decide +kernel
theorem qk73_25 : xe_look (xc 70) 25 = some (.iconst 0, 1, 0, 0, 0) := by decide +kernel
theorem qk73_26 : xe_look (xc 70) 26 = some (.aload_n 0, 1, 0, 0, 0) := by decide +kernel
theorem qk73_27 : xe_look (xc 70) 27 = some (.getfield 24, 3, 6, 2, 903) := by decide +kernel
theorem qk73_30 : xe_look (xc 70) 30 = some (.invokestatic 31, 3, 5, 0, 907) := by decide +kernel
theorem qk73_33 : xe_look (xc 70) 33 = some (.aload_n 1, 1, 0, 0, 0) := by decide +kernel
theorem qk73_34 : xe_look (xc 70) 34 = some (.getfield 21, 3, 6, 1, 905) := by decide +kernel
theorem qk73_37 : xe_look (xc 70) 37 = some (.iconst 0, 1, 0, 0, 0) := by decide +kernel
theorem qk73_38 : xe_look (xc 70) 38 = some (.aload_n 0, 1, 0, 0, 0) := by decide +kernel
theorem qk73_39 : xe_look (xc 70) 39 = some (.getfield 21, 3, 6, 1, 905) := by decide +kernel
theorem qk73_42 : xe_look (xc 70) 42 = some (.iconst 0, 1, 0, 0, 0) := by decide +kernel
theorem qk73_43 : xe_look (xc 70) 43 = some (.aload_n 0, 1, 0, 0, 0) := by decide +kernel
theorem qk73_44 : xe_look (xc 70) 44 = some (.getfield 24, 3, 6, 2, 903) := by decide +kernel
theorem qk73_47 : xe_look (xc 70) 47 = some (.invokestatic 31, 3, 5, 0, 907) := by decide +kernel
theorem qk73_50 : xe_look (xc 70) 50 = some (.return_, 1, 0, 0, 0) := by decide +kernel
theorem qxg_0 : xe_look (xc 120) 0 = some (.aload_n 0, 1, 0, 0, 0) := by decide +kernel
theorem qxg_1 : xe_look (xc 120) 1 = some (.getfield 16, 3, 11, 2, 983) := by decide +kernel
theorem qxg_4 : xe_look (xc 120) 4 = some (.iload_n 1, 1, 0, 0, 0) := by decide +kernel
theorem qxg_5 : xe_look (xc 120) 5 = some (.invokevirtual 107, 3, 0, 84, 984) := by decide +kernel
theorem qxg_8 : xe_look (xc 120) 8 = some (.astore_n 2, 1, 0, 0, 0) := by decide +kernel
theorem qxg_9 : xe_look (xc 120) 9 = some (.aload_n 2, 1, 0, 0, 0) := by decide +kernel
theorem qxg_10 : xe_look (xc 120) 10 = some (.ifnonnull 5, 3, 0, 0, 0) := by decide +kernel
theorem qxg_13 : xe_look (xc 120) 13 = some (.iconst 0, 1, 0, 0, 0) := by decide +kernel
theorem qxg_14 : xe_look (xc 120) 14 = some (.ireturn, 1, 0, 0, 0) := by decide +kernel
theorem qxg_15 : xe_look (xc 120) 15 = some (.aload_n 2, 1, 0, 0, 0) := by decide +kernel
theorem qxg_16 : xe_look (xc 120) 16 = some (.iconst 0, 1, 0, 0, 0) := by decide +kernel
theorem qxg_17 : xe_look (xc 120) 17 = some (.putfield 121, 3, 7, 2, 1019) := by decide +kernel
theorem qxg_20 : xe_look (xc 120) 20 = some (.aload_n 2, 1, 0, 0, 0) := by decide +kernel
theorem qxg_21 : xe_look (xc 120) 21 = some (.iconst (-1), 1, 0, 0, 0) := by decide +kernel
theorem qxg_22 : xe_look (xc 120) 22 = some (.putfield 125, 3, 7, 9, 991) := by decide +kernel
theorem qxg_25 : xe_look (xc 120) 25 = some (.aload_n 0, 1, 0, 0, 0) := by decide +kernel
theorem qxg_26 : xe_look (xc 120) 26 = some (.getfield 16, 3, 11, 2, 983) := by decide +kernel
theorem qxg_29 : xe_look (xc 120) 29 = some (.getfield 128, 3, 8, 5, 988) := by decide +kernel
theorem qxg_32 : xe_look (xc 120) 32 = some (.iload_n 1, 1, 0, 0, 0) := by decide +kernel
theorem qxg_33 : xe_look (xc 120) 33 = some (.invokevirtual 132, 3, 0, 71, 1020) := by decide +kernel
theorem qxg_36 : xe_look (xc 120) 36 = some (.aload_n 0, 1, 0, 0, 0) := by decide +kernel
theorem qxg_37 : xe_look (xc 120) 37 = some (.getfield 16, 3, 11, 2, 983) := by decide +kernel
theorem qxg_40 : xe_look (xc 120) 40 = some (.getfield 137, 3, 8, 6, 1009) := by decide +kernel
theorem qxg_43 : xe_look (xc 120) 43 = some (.iload_n 1, 1, 0, 0, 0) := by decide +kernel
theorem qxg_44 : xe_look (xc 120) 44 = some (.invokevirtual 132, 3, 0, 71, 1020) := by decide +kernel
theorem qxg_47 : xe_look (xc 120) 47 = some (.iconst 1, 1, 0, 0, 0) := by decide +kernel
theorem qxg_48 : xe_look (xc 120) 48 = some (.ireturn, 1, 0, 0, 0) := by decide +kernel
theorem er_144 : eL[144]? = some (0, 6) := by decide +kernel
theorem er_147 : eL[147]? = some (0, 6) := by decide +kernel
theorem cg_2_5 : (eG (cn 2 + 5)).2.2 = [71] := by decide +kernel
theorem cr_2_5 {d i : Nat} {lv : List (Nat × pv)} {r : List pv} {g : pH} (hG : g_I eG g) : px_push eL d none (.getfield i) 8 5 lv (pvR 2 :: r) g = some (pvR 70 :: r) := pget er_2 (gI_o (r := 70) hG er_2 (Nat.le_of_ble_eq_true rfl) (y := 5) rfl cg_2_5)
theorem cg_2_6 : (eG (cn 2 + 6)).2.2 = [74] := by decide +kernel
theorem cr_2_6 {d i : Nat} {lv : List (Nat × pv)} {r : List pv} {g : pH} (hG : g_I eG g) : px_push eL d none (.getfield i) 8 6 lv (pvR 2 :: r) g = some (pvR 73 :: r) := pget er_2 (gI_o (r := 73) hG er_2 (Nat.le_of_ble_eq_true rfl) (y := 6) rfl cg_2_6)
theorem cg_144_0 : (eG (cn 144 + 0)).2.2 = [146] := by decide +kernel
theorem cr_144_0 {d i : Nat} {lv : List (Nat × pv)} {r : List pv} {g : pH} (hG : g_I eG g) : px_push eL d none (.getfield i) 6 0 lv (pvR 144 :: r) g = some (pvR 145 :: r) := pget er_144 (gI_r (r := 145) hG er_144 (Nat.le_of_ble_eq_true rfl) (y := 0) rfl cg_144_0)
theorem cg_144_1 : (eG (cn 144 + 1)).2.2 = [147] := by decide +kernel
theorem cr_144_1 {d i : Nat} {lv : List (Nat × pv)} {r : List pv} {g : pH} (hG : g_I eG g) : px_push eL d none (.getfield i) 6 1 lv (pvR 144 :: r) g = some (pvR 146 :: r) := pget er_144 (gI_r (r := 146) hG er_144 (Nat.le_of_ble_eq_true rfl) (y := 1) rfl cg_144_1)
theorem cg_147_0 : (eG (cn 147 + 0)).2.2 = [149] := by decide +kernel
theorem cr_147_0 {d i : Nat} {lv : List (Nat × pv)} {r : List pv} {g : pH} (hG : g_I eG g) : px_push eL d none (.getfield i) 6 0 lv (pvR 147 :: r) g = some (pvR 148 :: r) := pget er_147 (gI_r (r := 148) hG er_147 (Nat.le_of_ble_eq_true rfl) (y := 0) rfl cg_147_0)
theorem cg_147_1 : (eG (cn 147 + 1)).2.2 = [150] := by decide +kernel
theorem cr_147_1 {d i : Nat} {lv : List (Nat × pv)} {r : List pv} {g : pH} (hG : g_I eG g) : px_push eL d none (.getfield i) 6 1 lv (pvR 147 :: r) g = some (pvR 149 :: r) := pget er_147 (gI_r (r := 149) hG er_147 (Nat.le_of_ble_eq_true rfl) (y := 1) rfl cg_147_1)
theorem gx_144_2 : eG (cn 144 + 2) = (0, 24, []) := by decide +kernel
theorem gx_147_2 : eG (cn 147 + 2) = (0, 12, []) := by decide +kernel
theorem cb_144_2 {g : pH} (hG : g_I eG g) : 0 ≤ cF g 144 2 ∧ cF g 144 2 ≤ 24 := cb_i hG er_144 (Nat.le_of_ble_eq_true rfl) rfl gx_144_2
theorem cb_147_2 {g : pH} (hG : g_I eG g) : 0 ≤ cF g 147 2 ∧ cF g 147 2 ≤ 12 := cb_i hG er_147 (Nat.le_of_ble_eq_true rfl) rfl gx_147_2
theorem Wclc : kk_40.2.2.2.1.testBit (cn 71) = true ∧ kk_40.2.2.2.1.testBit (cn 72) = true ∧ kk_40.2.2.2.1.testBit (cn 70 + 2) = true ∧ kk_40.2.2.2.1 &&& eDX = 0 := by decide +kernel
set_option maxHeartbeats 2000000 in
theorem cc_cl {d : Nat} (hd : 2 ≤ d) {g : pH} (hG : g_I eG g) (hS : rS g) {i j : Int} (hi : -2147483648 ≤ i ∧ i ≤ 2147483647) (hj : -2147483648 ≤ j ∧ j ≤ 2147483647) {P : Option pv × pH → Prop} (hA : toC g i ∧ toC g j ∧ i ≠ j ∧ cF g 70 2 < 24 → ∀ g1 : pH, J_ kk_40.2.2.2.1 g g1 → cF g1 70 2 = cF g 70 2 + 1 → fA g1 71 = updI (fA g 71) (cF g 70 2).toNat i → fA g1 72 = updI (fA g 72) (cF g 70 2).toNat j → P (some (oI (cF g 70 2 + 1)), g1)) (hR : ¬ (toC g i ∧ toC g j ∧ i ≠ j ∧ cF g 70 2 < 24) → P (some (oI (-1)), g)) {lv : List (Nat × pv)} (l0 : px_lg lv 0 = some (pvR 0)) (l1 : px_lg lv 1 = some (oI i)) (l2 : px_lg lv 2 = some (oI j)) : t_X d 111 0 lv [] g P := by
  have hJ : J_ kk_40.2.2.2.1 g g := J_rf hG
  refine t_0 qccl_0 rfl (ld_a l0) ?_
  refine t_0 qccl_1 rfl (cr_0_2 hJ.1) ?_
  refine t_0 qccl_4 rfl (ld_i l1) ?_
  refine t_3 qccl_5 rfl (ar := ([pvR 2, oI (i)], [])) (pcal_v1 rfl rfl er_2) ⟨by omega, Nat.le_of_ble_eq_true rfl, Nat.le_of_ble_eq_true rfl, rfl⟩ ?_
  refine td_run (by omega) hJ.1 hS (by omega) (fun m1 hm1 e1 c1 => ?_) (fun c1 => ?_) rfl rfl
  · show t_X d 111 8 lv [pvR (4 + 2 * m1)] g P
    refine t_1 qccl_8 rfl (pn_nf (pc := 8) ) ?_
    show t_X d 111 11 lv [] g P
    refine t_0 qccl_11 rfl (ld_a l0) ?_
    refine t_0 qccl_12 rfl (cr_0_2 hJ.1) ?_
    refine t_0 qccl_15 rfl (ld_i l2) ?_
    refine t_3 qccl_16 rfl (ar := ([pvR 2, oI (j)], [])) (pcal_v1 rfl rfl er_2) ⟨by omega, Nat.le_of_ble_eq_true rfl, Nat.le_of_ble_eq_true rfl, rfl⟩ ?_
    refine td_run (by omega) hJ.1 hS (by omega) (fun m2 hm2 e2 c2 => ?_) (fun c2 => ?_) rfl rfl
    · show t_X d 111 19 lv [pvR (4 + 2 * m2)] g P
      refine t_1 qccl_19 rfl (pn_nf (pc := 19) ) ?_
      show t_X d 111 22 lv [] g P
      refine t_0 qccl_22 rfl (ld_i l1) ?_
      refine t_0 qccl_23 rfl (ld_i l2) ?_
      refine tb_ne qccl_24 (by decide) ⟨by omega, by omega⟩ ⟨by omega, by omega⟩ (fun c3 => ?_) (fun c3 => ?_)
      · show t_X d 111 29 lv [] g P
        refine t_0 qccl_29 rfl (ld_a l0) ?_
        refine t_0 qccl_30 rfl (cr_0_2 hJ.1) ?_
        refine t_0 qccl_33 rfl (cr_2_5 hJ.1) ?_
        refine t_0 qccl_36 rfl (ld_i l1) ?_
        refine t_0 qccl_37 rfl (ld_i l2) ?_
        refine t_3 qccl_38 rfl (ar := ([pvR 70, oI (i), oI (j)], [])) (pcal_v2 rfl rfl er_70) ⟨by omega, Nat.le_of_ble_eq_true rfl, Nat.le_of_ble_eq_true rfl, rfl⟩ ?_
        refine ad_cl hJ Wclc.1 Wclc.2.1 Wclc.2.2.1 (by omega) (by omega) (fun z9 => ?_) (fun g9 J9 z9 s9 p9 q9 => ?_) rfl rfl rfl
        · show t_X d 111 41 lv [oI (-1)] g P
          refine t_5 qccl_41 rfl rfl ?_
          exact hR (fun z => absurd z.2.2.2 (by omega))
        · show t_X d 111 41 lv [oI (cF g 70 2 + 1)] g9 P
          refine t_5 qccl_41 rfl rfl ?_
          exact hA ⟨⟨m1, hm1, e1, c1⟩, ⟨m2, hm2, e2, c2⟩, by omega, z9⟩ g9 J9 s9 p9 q9
      · show t_X d 111 27 lv [] g P
        refine t_0 qccl_27 rfl rfl ?_
        refine t_5 qccl_28 rfl rfl ?_
        exact hR (fun z => absurd z.2.2.1 (by omega))
    · show t_X d 111 19 lv [.inr (.inr none)] g P
      refine t_1 qccl_19 rfl (pn_nt (pc := 19) (by decide)) ?_
      show t_X d 111 27 lv [] g P
      refine t_0 qccl_27 rfl rfl ?_
      refine t_5 qccl_28 rfl rfl ?_
      exact hR (fun z => c2 z.2.1)
  · show t_X d 111 8 lv [.inr (.inr none)] g P
    refine t_1 qccl_8 rfl (pn_nt (pc := 8) (by decide)) ?_
    show t_X d 111 27 lv [] g P
    refine t_0 qccl_27 rfl rfl ?_
    refine t_5 qccl_28 rfl rfl ?_
    exact hR (fun z => c1 z.1)
theorem Wlic : kk_46.2.2.2.1.testBit (cn 74) = true ∧ kk_46.2.2.2.1.testBit (cn 75) = true ∧ kk_46.2.2.2.1.testBit (cn 73 + 2) = true ∧ kk_46.2.2.2.1 &&& eDX = 0 := by decide +kernel
set_option maxHeartbeats 2000000 in
theorem cc_li {d : Nat} (hd : 2 ≤ d) {g : pH} (hG : g_I eG g) (hS : rS g) {i j : Int} (hi : -2147483648 ≤ i ∧ i ≤ 2147483647) (hj : -2147483648 ≤ j ∧ j ≤ 2147483647) {P : Option pv × pH → Prop} (hA : toC g i ∧ toC g j ∧ i ≠ j ∧ cF g 73 2 < 12 → ∀ g1 : pH, J_ kk_46.2.2.2.1 g g1 → cF g1 73 2 = cF g 73 2 + 1 → fA g1 74 = updI (fA g 74) (cF g 73 2).toNat i → fA g1 75 = updI (fA g 75) (cF g 73 2).toNat j → P (some (oI (cF g 73 2 + 1)), g1)) (hR : ¬ (toC g i ∧ toC g j ∧ i ≠ j ∧ cF g 73 2 < 12) → P (some (oI (-1)), g)) {lv : List (Nat × pv)} (l0 : px_lg lv 0 = some (pvR 0)) (l1 : px_lg lv 1 = some (oI i)) (l2 : px_lg lv 2 = some (oI j)) : t_X d 133 0 lv [] g P := by
  have hJ : J_ kk_46.2.2.2.1 g g := J_rf hG
  refine t_0 qcli_0 rfl (ld_a l0) ?_
  refine t_0 qcli_1 rfl (cr_0_2 hJ.1) ?_
  refine t_0 qcli_4 rfl (ld_i l1) ?_
  refine t_3 qcli_5 rfl (ar := ([pvR 2, oI (i)], [])) (pcal_v1 rfl rfl er_2) ⟨by omega, Nat.le_of_ble_eq_true rfl, Nat.le_of_ble_eq_true rfl, rfl⟩ ?_
  refine td_run (by omega) hJ.1 hS (by omega) (fun m1 hm1 e1 c1 => ?_) (fun c1 => ?_) rfl rfl
  · show t_X d 133 8 lv [pvR (4 + 2 * m1)] g P
    refine t_1 qcli_8 rfl (pn_nf (pc := 8) ) ?_
    show t_X d 133 11 lv [] g P
    refine t_0 qcli_11 rfl (ld_a l0) ?_
    refine t_0 qcli_12 rfl (cr_0_2 hJ.1) ?_
    refine t_0 qcli_15 rfl (ld_i l2) ?_
    refine t_3 qcli_16 rfl (ar := ([pvR 2, oI (j)], [])) (pcal_v1 rfl rfl er_2) ⟨by omega, Nat.le_of_ble_eq_true rfl, Nat.le_of_ble_eq_true rfl, rfl⟩ ?_
    refine td_run (by omega) hJ.1 hS (by omega) (fun m2 hm2 e2 c2 => ?_) (fun c2 => ?_) rfl rfl
    · show t_X d 133 19 lv [pvR (4 + 2 * m2)] g P
      refine t_1 qcli_19 rfl (pn_nf (pc := 19) ) ?_
      show t_X d 133 22 lv [] g P
      refine t_0 qcli_22 rfl (ld_i l1) ?_
      refine t_0 qcli_23 rfl (ld_i l2) ?_
      refine tb_ne qcli_24 (by decide) ⟨by omega, by omega⟩ ⟨by omega, by omega⟩ (fun c3 => ?_) (fun c3 => ?_)
      · show t_X d 133 29 lv [] g P
        refine t_0 qcli_29 rfl (ld_a l0) ?_
        refine t_0 qcli_30 rfl (cr_0_2 hJ.1) ?_
        refine t_0 qcli_33 rfl (cr_2_6 hJ.1) ?_
        refine t_0 qcli_36 rfl (ld_i l1) ?_
        refine t_0 qcli_37 rfl (ld_i l2) ?_
        refine t_3 qcli_38 rfl (ar := ([pvR 73, oI (i), oI (j)], [])) (pcal_v2 rfl rfl er_73) ⟨by omega, Nat.le_of_ble_eq_true rfl, Nat.le_of_ble_eq_true rfl, rfl⟩ ?_
        refine ad_li hJ Wlic.1 Wlic.2.1 Wlic.2.2.1 (by omega) (by omega) (fun z9 => ?_) (fun g9 J9 z9 s9 p9 q9 => ?_) rfl rfl rfl
        · show t_X d 133 41 lv [oI (-1)] g P
          refine t_5 qcli_41 rfl rfl ?_
          exact hR (fun z => absurd z.2.2.2 (by omega))
        · show t_X d 133 41 lv [oI (cF g 73 2 + 1)] g9 P
          refine t_5 qcli_41 rfl rfl ?_
          exact hA ⟨⟨m1, hm1, e1, c1⟩, ⟨m2, hm2, e2, c2⟩, by omega, z9⟩ g9 J9 s9 p9 q9
      · show t_X d 133 27 lv [] g P
        refine t_0 qcli_27 rfl rfl ?_
        refine t_5 qcli_28 rfl rfl ?_
        exact hR (fun z => absurd z.2.2.1 (by omega))
    · show t_X d 133 19 lv [.inr (.inr none)] g P
      refine t_1 qcli_19 rfl (pn_nt (pc := 19) (by decide)) ?_
      show t_X d 133 27 lv [] g P
      refine t_0 qcli_27 rfl rfl ?_
      refine t_5 qcli_28 rfl rfl ?_
      exact hR (fun z => c2 z.2.1)
  · show t_X d 133 8 lv [.inr (.inr none)] g P
    refine t_1 qcli_8 rfl (pn_nt (pc := 8) (by decide)) ?_
    show t_X d 133 27 lv [] g P
    refine t_0 qcli_27 rfl rfl ?_
    refine t_5 qcli_28 rfl rfl ?_
    exact hR (fun z => c1 z.1)
theorem gs_cor {m : Nat} (h : m < 32) : eG (cn (4 + 2 * m) + 9) = (-1, 3, []) := by
  have : ∀ m, m < 32 → eG (cn (4 + 2 * m) + 9) = (-1, 3, []) := by decide +kernel
  exact this m h
theorem WGb : ∀ m, m < 32 → kk_8.2.2.2.1.testBit (cn (4 + 2 * m) + 2) = true ∧ kk_8.2.2.2.1.testBit (cn (4 + 2 * m) + 9) = true := by decide +kernel
def Wdcl : Nat := 2 ^ (cn 70 + 2) + 2 ^ cn 71 + 2 ^ cn 72
def Wdli : Nat := 2 ^ (cn 73 + 2) + 2 ^ cn 74 + 2 ^ cn 75
theorem Wdcl_1 : Wdcl.testBit (cn 71) = true ∧ Wdcl.testBit (cn 72) = true ∧ Wdcl.testBit (cn 70 + 2) = true ∧ Wdcl &&& kk_8.2.2.2.1 = Wdcl ∧ Wdcl.testBit (cn 74) = false ∧ Wdcl.testBit (cn 75) = false ∧ Wdcl.testBit (cn 73 + 2) = false := by decide +kernel
theorem Wdli_1 : Wdli.testBit (cn 74) = true ∧ Wdli.testBit (cn 75) = true ∧ Wdli.testBit (cn 73 + 2) = true ∧ Wdli &&& kk_8.2.2.2.1 = Wdli ∧ Wdli.testBit (cn 71) = false ∧ Wdli.testBit (cn 72) = false ∧ Wdli.testBit (cn 70 + 2) = false := by decide +kernel
/-- the rows of twos behind gone -/
def dwR (i : Int) (k a b : Nat) (g g1 : pH) : Prop := cF g1 k 2 = ((dw i (fA g a) (fA g b) (cF g k 2).toNat).1 : Int) ∧ fA g1 a = (dw i (fA g a) (fA g b) (cF g k 2).toNat).2.1 ∧ fA g1 b = (dw i (fA g a) (fA g b) (cF g k 2).toNat).2.2
theorem dwR_e {i : Int} {k a b : Nat} {g g0 g1 g2 : pH} (h : dwR i k a b g0 g1) (h1 : cF g0 k 2 = cF g k 2) (h2 : fA g0 a = fA g a) (h3 : fA g0 b = fA g b) (h4 : cF g2 k 2 = cF g1 k 2) (h5 : fA g2 a = fA g1 a) (h6 : fA g2 b = fA g1 b) : dwR i k a b g g2 := by
  unfold dwR at h ⊢
  rw [h4, h5, h6, ← h1, ← h2, ← h3]
  exact h
set_option maxHeartbeats 4000000 in
theorem cg9_run {d : Nat} (hd : 4 ≤ d) {g : pH} (hG : g_I eG g) (hS : rS g) {i : Int} (hi : -2147483648 ≤ i ∧ i ≤ 2147483647) {P : Option pv × pH → Prop} (hA : toC g i → ∀ g1 : pH, J_ kk_8.2.2.2.1 g g1 → dwR i 70 71 72 g g1 → dwR i 73 74 75 g g1 → P (some (oI 1), g1)) (hR : ¬ toC g i → P (some (oI 0), g)) {lv : List (Nat × pv)} (l0 : px_lg lv 0 = some (pvR 0)) (l1 : px_lg lv 1 = some (oI i)) : t_X d 120 0 lv [] g P := by
  have hJ : J_ kk_8.2.2.2.1 g g := J_rf hG
  refine t_0 qxg_0 rfl (ld_a l0) ?_
  refine t_0 qxg_1 rfl (cr_0_2 hJ.1) ?_
  refine t_0 qxg_4 rfl (ld_i l1) ?_
  refine t_3 qxg_5 rfl (ar := ([pvR 2, oI (i)], [])) (pcal_v1 rfl rfl er_2) ⟨by omega, Nat.le_of_ble_eq_true rfl, Nat.le_of_ble_eq_true rfl, rfl⟩ ?_
  refine td_run (by omega) hJ.1 hS (by omega) (fun m hm e1 c0 => ?_) (fun c0 => ?_) rfl rfl
  · show t_X d 120 8 lv [pvR (4 + 2 * m)] g P
    refine t_2 qxg_8 rfl (w := (px_s1 lv 2 (pvR (4 + 2 * m)), [])) rfl ?_
    replace l0 : px_lg (px_s1 lv 2 (pvR (4 + 2 * m))) 0 = some (pvR 0) := s1_ne (by decide) (fun _ => rfl) l0
    replace l1 : px_lg (px_s1 lv 2 (pvR (4 + 2 * m))) 1 = some (oI (i)) := s1_ne (by decide) (fun _ => rfl) l1
    have l2 : px_lg (px_s1 lv 2 (pvR (4 + 2 * m))) 2 = some (pvR (4 + 2 * m)) := s1_eq
    generalize px_s1 lv 2 (pvR (4 + 2 * m)) = lv1 at l0 l1 l2 ⊢
    show t_X d 120 9 lv1 [] g P
    refine t_0 qxg_9 rfl (ld_a l2) ?_
    refine t_1 qxg_10 rfl (pn_ot (pc := 10) (by decide)) ?_
    show t_X d 120 15 lv1 [] g P
    refine t_0 qxg_15 rfl (ld_a l2) ?_
    refine t_0 qxg_16 rfl rfl ?_
    refine tw_z qxg_17 (el_s4 hm) rfl hJ (WGb m hm).1 (gs_told hm).1 (by decide) ⟨by omega, by omega⟩ (by omega) (fun g2 hJ2 e2 => ?_)
    have u2_71 : fA g2 71 = fA g 71 := by rw [e2]; rfl
    have u2_72 : fA g2 72 = fA g 72 := by rw [e2]; rfl
    have u2_74 : fA g2 74 = fA g 74 := by rw [e2]; rfl
    have u2_75 : fA g2 75 = fA g 75 := by rw [e2]; rfl
    have v2_70 : cF g2 70 2 = cF g 70 2 := by rw [e2]; exact pc_ne (by omega)
    have v2_73 : cF g2 73 2 = cF g 73 2 := by rw [e2]; exact pc_ne (by omega)
    show t_X d 120 20 lv1 [] g2 P
    refine t_0 qxg_20 rfl (ld_a l2) ?_
    refine t_0 qxg_21 rfl rfl ?_
    refine tw_c qxg_22 (el_s4 hm) rfl hJ2 (WGb m hm).2 (gs_cor hm) (by decide) ⟨by omega, by omega⟩ (fun g3 hJ3 e3 => ?_)
    have u3_71 : fA g3 71 = fA g2 71 := by rw [e3]; rfl
    have u3_72 : fA g3 72 = fA g2 72 := by rw [e3]; rfl
    have u3_74 : fA g3 74 = fA g2 74 := by rw [e3]; rfl
    have u3_75 : fA g3 75 = fA g2 75 := by rw [e3]; rfl
    have v3_70 : cF g3 70 2 = cF g2 70 2 := by rw [e3]; exact pc_ne (by omega)
    have v3_73 : cF g3 73 2 = cF g2 73 2 := by rw [e3]; exact pc_ne (by omega)
    show t_X d 120 25 lv1 [] g3 P
    refine t_0 qxg_25 rfl (ld_a l0) ?_
    refine t_0 qxg_26 rfl (cr_0_2 hJ3.1) ?_
    refine t_0 qxg_29 rfl (cr_2_5 hJ3.1) ?_
    refine t_0 qxg_32 rfl (ld_i l1) ?_
    refine t_3 qxg_33 rfl (ar := ([pvR 70, oI (i)], [])) (pcal_v1 rfl rfl er_70) ⟨by omega, Nat.le_of_ble_eq_true rfl, Nat.le_of_ble_eq_true rfl, rfl⟩ ?_
    refine dr_cl (W := Wdcl) (J_rf hJ3.1) (by omega) Wdcl_1.1 Wdcl_1.2.1 Wdcl_1.2.2.1 (fun g4 J4 z4 a4 b4 => ?_) rfl rfl
    have hJ4 := J_up Wdcl_1.2.2.2.1 hJ3 J4
    show t_X d 120 36 lv1 [] g4 P
    refine t_0 qxg_36 rfl (ld_a l0) ?_
    refine t_0 qxg_37 rfl (cr_0_2 hJ4.1) ?_
    refine t_0 qxg_40 rfl (cr_2_6 hJ4.1) ?_
    refine t_0 qxg_43 rfl (ld_i l1) ?_
    refine t_3 qxg_44 rfl (ar := ([pvR 73, oI (i)], [])) (pcal_v1 rfl rfl er_73) ⟨by omega, Nat.le_of_ble_eq_true rfl, Nat.le_of_ble_eq_true rfl, rfl⟩ ?_
    refine dr_li (W := Wdli) (J_rf hJ4.1) (by omega) Wdli_1.1 Wdli_1.2.1 Wdli_1.2.2.1 (fun g5 J5 z5 a5 b5 => ?_) rfl rfl
    have hJ5 := J_up Wdli_1.2.2.2.1 hJ4 J5
    show t_X d 120 47 lv1 [] g5 P
    refine t_0 qxg_47 rfl rfl ?_
    refine t_5 qxg_48 rfl rfl ?_
    have D1 : dwR i 70 71 72 g3 g4 := ⟨z4, a4, b4⟩
    have D2 : dwR i 73 74 75 g4 g5 := ⟨z5, a5, b5⟩
    refine hA ⟨m, hm, e1, c0⟩ g5 hJ5 ?_ ?_
    · exact dwR_e D1 (by rw [v3_70, v2_70]) (by rw [u3_71, u2_71]) (by rw [u3_72, u2_72]) (cF_M J5.2 Wdli_1.2.2.2.2.2.2) (fA_M J5.2 Wdli_1.2.2.2.2.1) (fA_M J5.2 Wdli_1.2.2.2.2.2.1)
    · exact dwR_e D2 (by rw [cF_M J4.2 Wdcl_1.2.2.2.2.2.2, v3_73, v2_73]) (by rw [fA_M J4.2 Wdcl_1.2.2.2.2.1, u3_74, u2_74]) (by rw [fA_M J4.2 Wdcl_1.2.2.2.2.2.1, u3_75, u2_75]) rfl rfl rfl
  · show t_X d 120 8 lv [.inr (.inr none)] g P
    refine t_2 qxg_8 rfl (w := (px_s1 lv 2 (.inr (.inr none)), [])) rfl ?_
    replace l0 : px_lg (px_s1 lv 2 (.inr (.inr none))) 0 = some (pvR 0) := s1_ne (by decide) (fun _ => rfl) l0
    replace l1 : px_lg (px_s1 lv 2 (.inr (.inr none))) 1 = some (oI (i)) := s1_ne (by decide) (fun _ => rfl) l1
    have l2 : px_lg (px_s1 lv 2 (.inr (.inr none))) 2 = some (.inr (.inr none)) := s1_eq
    generalize px_s1 lv 2 (.inr (.inr none)) = lv6 at l0 l1 l2 ⊢
    show t_X d 120 9 lv6 [] g P
    refine t_0 qxg_9 rfl (ld_a l2) ?_
    refine t_1 qxg_10 rfl (pn_of (pc := 10) ) ?_
    show t_X d 120 13 lv6 [] g P
    refine t_0 qxg_13 rfl rfl ?_
    refine t_5 qxg_14 rfl rfl ?_
    exact hR c0
/-- a row of twos goes over -/
def cpR (k a b k2 a2 b2 : Nat) (g g1 : pH) : Prop := cF g1 k2 2 = cF g k 2 ∧ ∀ j : Nat, (j : Int) < cF g k 2 → fA g1 a2 j = fA g a j ∧ fA g1 b2 j = fA g b j
def Wk144 : Nat := 2 ^ (cn 144 + 2) + 2 ^ cn 145 + 2 ^ cn 146
theorem Wk144_1 : Wk144.testBit (cn 144 + 2) = true ∧ Wk144.testBit (cn 145) = true ∧ Wk144.testBit (cn 146) = true := by decide +kernel
set_option maxHeartbeats 2000000 in
theorem pk_144 {d : Nat} (hd : 1 ≤ d) {g : pH} (hG : g_I eG g) {P : Option pv × pH → Prop} (hP : ∀ g1 : pH, J_ Wk144 g g1 → cpR 70 71 72 144 145 146 g g1 → P (none, g1)) {lv : List (Nat × pv)} (l0 : px_lg lv 0 = some (pvR 144)) (l1 : px_lg lv 1 = some (pvR 70)) : t_X d 70 0 lv [] g P := by
  have hJ : J_ Wk144 g g := J_rf hG
  obtain ⟨w_144_2, w_a145, w_a146⟩ := Wk144_1
  refine t_0 qk144_0 rfl (ld_a l0) ?_
  refine t_0 qk144_1 rfl (ld_a l1) ?_
  have r1 := cb_70_2 hJ.1
  refine t_0 qk144_2 rfl (pq_cf (y := 2) er_70 rfl) ?_
  refine t_0 qk144_5 rfl (ld_a l0) ?_
  refine t_0 qk144_6 rfl (cr_144_0 hJ.1) ?_
  refine t_0 qk144_9 rfl (pq_al el_145 rfl) ?_
  refine t_0 qk144_10 rfl (pq_mn (by omega) (by decide) ⟨by omega, by omega⟩ ⟨by omega, by omega⟩ (by omega)) ?_
  refine tw_c qk144_13 er_144 rfl hJ w_144_2 gx_144_2 (by decide) ⟨by omega, by omega⟩ (fun g2 hJ2 e2 => ?_)
  have v2 : cF g2 144 2 = cF g 70 2 := by rw [e2]; exact pc_at (by omega) (by omega)
  have u2_71 : fA g2 71 = fA g 71 := by rw [e2]; rfl
  have u2_72 : fA g2 72 = fA g 72 := by rw [e2]; rfl
  show t_X d 70 16 lv [] g2 P
  refine t_0 qk144_16 rfl (ld_a l1) ?_
  refine t_0 qk144_17 rfl (cr_70_0 hJ2.1) ?_
  refine t_0 qk144_20 rfl rfl ?_
  refine t_0 qk144_21 rfl (ld_a l0) ?_
  refine t_0 qk144_22 rfl (cr_144_0 hJ2.1) ?_
  refine t_0 qk144_25 rfl rfl ?_
  refine t_0 qk144_26 rfl (ld_a l0) ?_
  have r3 := cb_144_2 hJ2.1
  refine t_0 qk144_27 rfl (pq_cf (y := 2) er_144 rfl) ?_
  refine tw_cp qk144_30 (by omega) (by decide) hJ2 el_145 el_71 rfl ⟨by omega, by omega, by omega⟩ w_a145 (ga_71.trans ga_145.symm) (fun g4 hJ4 p4 o4 f4 => ?_)
  have v4_144 : cF g4 144 2 = cF g2 144 2 := congrArg (fun f => (f 144 2).toInt) f4
  have v4_70 : cF g4 70 2 = cF g2 70 2 := congrArg (fun f => (f 70 2).toInt) f4
  show t_X d 70 33 lv [] g4 P
  refine t_0 qk144_33 rfl (ld_a l1) ?_
  refine t_0 qk144_34 rfl (cr_70_1 hJ4.1) ?_
  refine t_0 qk144_37 rfl rfl ?_
  refine t_0 qk144_38 rfl (ld_a l0) ?_
  refine t_0 qk144_39 rfl (cr_144_1 hJ4.1) ?_
  refine t_0 qk144_42 rfl rfl ?_
  refine t_0 qk144_43 rfl (ld_a l0) ?_
  have r5 := cb_144_2 hJ4.1
  refine t_0 qk144_44 rfl (pq_cf (y := 2) er_144 rfl) ?_
  refine tw_cp qk144_47 (by omega) (by decide) hJ4 el_146 el_72 rfl ⟨by omega, by omega, by omega⟩ w_a146 (ga_72.trans ga_146.symm) (fun g6 hJ6 p6 o6 f6 => ?_)
  have v6_144 : cF g6 144 2 = cF g4 144 2 := congrArg (fun f => (f 144 2).toInt) f6
  have v6_70 : cF g6 70 2 = cF g4 70 2 := congrArg (fun f => (f 70 2).toInt) f6
  show t_X d 70 50 lv [] g6 P
  refine t_5 qk144_50 rfl rfl ?_
  refine hP g6 hJ6 ⟨by omega, fun j hj => ⟨?_, ?_⟩⟩
  · rw [o6 145 (by decide), p4]
    show (if (j : Int) < _ then fA g2 71 j else _) = _
    rw [if_pos (by omega), u2_71]
  · rw [p6]
    show (if (j : Int) < _ then fA g4 72 j else _) = _
    rw [if_pos (by omega), o4 72 (by decide), u2_72]
def Wk147 : Nat := 2 ^ (cn 147 + 2) + 2 ^ cn 148 + 2 ^ cn 149
theorem Wk147_1 : Wk147.testBit (cn 147 + 2) = true ∧ Wk147.testBit (cn 148) = true ∧ Wk147.testBit (cn 149) = true := by decide +kernel
set_option maxHeartbeats 2000000 in
theorem pk_147 {d : Nat} (hd : 1 ≤ d) {g : pH} (hG : g_I eG g) {P : Option pv × pH → Prop} (hP : ∀ g1 : pH, J_ Wk147 g g1 → cpR 73 74 75 147 148 149 g g1 → P (none, g1)) {lv : List (Nat × pv)} (l0 : px_lg lv 0 = some (pvR 147)) (l1 : px_lg lv 1 = some (pvR 73)) : t_X d 70 0 lv [] g P := by
  have hJ : J_ Wk147 g g := J_rf hG
  obtain ⟨w_147_2, w_a148, w_a149⟩ := Wk147_1
  refine t_0 qk147_0 rfl (ld_a l0) ?_
  refine t_0 qk147_1 rfl (ld_a l1) ?_
  have r1 := cb_73_2 hJ.1
  refine t_0 qk147_2 rfl (pq_cf (y := 2) er_73 rfl) ?_
  refine t_0 qk147_5 rfl (ld_a l0) ?_
  refine t_0 qk147_6 rfl (cr_147_0 hJ.1) ?_
  refine t_0 qk147_9 rfl (pq_al el_148 rfl) ?_
  refine t_0 qk147_10 rfl (pq_mn (by omega) (by decide) ⟨by omega, by omega⟩ ⟨by omega, by omega⟩ (by omega)) ?_
  refine tw_c qk147_13 er_147 rfl hJ w_147_2 gx_147_2 (by decide) ⟨by omega, by omega⟩ (fun g2 hJ2 e2 => ?_)
  have v2 : cF g2 147 2 = cF g 73 2 := by rw [e2]; exact pc_at (by omega) (by omega)
  have u2_74 : fA g2 74 = fA g 74 := by rw [e2]; rfl
  have u2_75 : fA g2 75 = fA g 75 := by rw [e2]; rfl
  show t_X d 70 16 lv [] g2 P
  refine t_0 qk147_16 rfl (ld_a l1) ?_
  refine t_0 qk147_17 rfl (cr_73_0 hJ2.1) ?_
  refine t_0 qk147_20 rfl rfl ?_
  refine t_0 qk147_21 rfl (ld_a l0) ?_
  refine t_0 qk147_22 rfl (cr_147_0 hJ2.1) ?_
  refine t_0 qk147_25 rfl rfl ?_
  refine t_0 qk147_26 rfl (ld_a l0) ?_
  have r3 := cb_147_2 hJ2.1
  refine t_0 qk147_27 rfl (pq_cf (y := 2) er_147 rfl) ?_
  refine tw_cp qk147_30 (by omega) (by decide) hJ2 el_148 el_74 rfl ⟨by omega, by omega, by omega⟩ w_a148 (ga_74.trans ga_148.symm) (fun g4 hJ4 p4 o4 f4 => ?_)
  have v4_147 : cF g4 147 2 = cF g2 147 2 := congrArg (fun f => (f 147 2).toInt) f4
  have v4_73 : cF g4 73 2 = cF g2 73 2 := congrArg (fun f => (f 73 2).toInt) f4
  show t_X d 70 33 lv [] g4 P
  refine t_0 qk147_33 rfl (ld_a l1) ?_
  refine t_0 qk147_34 rfl (cr_73_1 hJ4.1) ?_
  refine t_0 qk147_37 rfl rfl ?_
  refine t_0 qk147_38 rfl (ld_a l0) ?_
  refine t_0 qk147_39 rfl (cr_147_1 hJ4.1) ?_
  refine t_0 qk147_42 rfl rfl ?_
  refine t_0 qk147_43 rfl (ld_a l0) ?_
  have r5 := cb_147_2 hJ4.1
  refine t_0 qk147_44 rfl (pq_cf (y := 2) er_147 rfl) ?_
  refine tw_cp qk147_47 (by omega) (by decide) hJ4 el_149 el_75 rfl ⟨by omega, by omega, by omega⟩ w_a149 (ga_75.trans ga_149.symm) (fun g6 hJ6 p6 o6 f6 => ?_)
  have v6_147 : cF g6 147 2 = cF g4 147 2 := congrArg (fun f => (f 147 2).toInt) f6
  have v6_73 : cF g6 73 2 = cF g4 73 2 := congrArg (fun f => (f 73 2).toInt) f6
  show t_X d 70 50 lv [] g6 P
  refine t_5 qk147_50 rfl rfl ?_
  refine hP g6 hJ6 ⟨by omega, fun j hj => ⟨?_, ?_⟩⟩
  · rw [o6 148 (by decide), p4]
    show (if (j : Int) < _ then fA g2 74 j else _) = _
    rw [if_pos (by omega), u2_74]
  · rw [p6]
    show (if (j : Int) < _ then fA g4 75 j else _) = _
    rw [if_pos (by omega), o4 75 (by decide), u2_75]
def Wk70 : Nat := 2 ^ (cn 70 + 2) + 2 ^ cn 71 + 2 ^ cn 72
theorem Wk70_1 : Wk70.testBit (cn 70 + 2) = true ∧ Wk70.testBit (cn 71) = true ∧ Wk70.testBit (cn 72) = true := by decide +kernel
set_option maxHeartbeats 2000000 in
theorem pk_70 {d : Nat} (hd : 1 ≤ d) {g : pH} (hG : g_I eG g) {P : Option pv × pH → Prop} (hP : ∀ g1 : pH, J_ Wk70 g g1 → cpR 144 145 146 70 71 72 g g1 → P (none, g1)) {lv : List (Nat × pv)} (l0 : px_lg lv 0 = some (pvR 70)) (l1 : px_lg lv 1 = some (pvR 144)) : t_X d 70 0 lv [] g P := by
  have hJ : J_ Wk70 g g := J_rf hG
  obtain ⟨w_70_2, w_a71, w_a72⟩ := Wk70_1
  refine t_0 qk70_0 rfl (ld_a l0) ?_
  refine t_0 qk70_1 rfl (ld_a l1) ?_
  have r1 := cb_144_2 hJ.1
  refine t_0 qk70_2 rfl (pq_cf (y := 2) er_144 rfl) ?_
  refine t_0 qk70_5 rfl (ld_a l0) ?_
  refine t_0 qk70_6 rfl (cr_70_0 hJ.1) ?_
  refine t_0 qk70_9 rfl (pq_al el_71 rfl) ?_
  refine t_0 qk70_10 rfl (pq_mn (by omega) (by decide) ⟨by omega, by omega⟩ ⟨by omega, by omega⟩ (by omega)) ?_
  refine tw_c qk70_13 er_70 rfl hJ w_70_2 gx_70_2 (by decide) ⟨by omega, by omega⟩ (fun g2 hJ2 e2 => ?_)
  have v2 : cF g2 70 2 = cF g 144 2 := by rw [e2]; exact pc_at (by omega) (by omega)
  have u2_145 : fA g2 145 = fA g 145 := by rw [e2]; rfl
  have u2_146 : fA g2 146 = fA g 146 := by rw [e2]; rfl
  show t_X d 70 16 lv [] g2 P
  refine t_0 qk70_16 rfl (ld_a l1) ?_
  refine t_0 qk70_17 rfl (cr_144_0 hJ2.1) ?_
  refine t_0 qk70_20 rfl rfl ?_
  refine t_0 qk70_21 rfl (ld_a l0) ?_
  refine t_0 qk70_22 rfl (cr_70_0 hJ2.1) ?_
  refine t_0 qk70_25 rfl rfl ?_
  refine t_0 qk70_26 rfl (ld_a l0) ?_
  have r3 := cb_70_2 hJ2.1
  refine t_0 qk70_27 rfl (pq_cf (y := 2) er_70 rfl) ?_
  refine tw_cp qk70_30 (by omega) (by decide) hJ2 el_71 el_145 rfl ⟨by omega, by omega, by omega⟩ w_a71 (ga_145.trans ga_71.symm) (fun g4 hJ4 p4 o4 f4 => ?_)
  have v4_70 : cF g4 70 2 = cF g2 70 2 := congrArg (fun f => (f 70 2).toInt) f4
  have v4_144 : cF g4 144 2 = cF g2 144 2 := congrArg (fun f => (f 144 2).toInt) f4
  show t_X d 70 33 lv [] g4 P
  refine t_0 qk70_33 rfl (ld_a l1) ?_
  refine t_0 qk70_34 rfl (cr_144_1 hJ4.1) ?_
  refine t_0 qk70_37 rfl rfl ?_
  refine t_0 qk70_38 rfl (ld_a l0) ?_
  refine t_0 qk70_39 rfl (cr_70_1 hJ4.1) ?_
  refine t_0 qk70_42 rfl rfl ?_
  refine t_0 qk70_43 rfl (ld_a l0) ?_
  have r5 := cb_70_2 hJ4.1
  refine t_0 qk70_44 rfl (pq_cf (y := 2) er_70 rfl) ?_
  refine tw_cp qk70_47 (by omega) (by decide) hJ4 el_72 el_146 rfl ⟨by omega, by omega, by omega⟩ w_a72 (ga_146.trans ga_72.symm) (fun g6 hJ6 p6 o6 f6 => ?_)
  have v6_70 : cF g6 70 2 = cF g4 70 2 := congrArg (fun f => (f 70 2).toInt) f6
  have v6_144 : cF g6 144 2 = cF g4 144 2 := congrArg (fun f => (f 144 2).toInt) f6
  show t_X d 70 50 lv [] g6 P
  refine t_5 qk70_50 rfl rfl ?_
  refine hP g6 hJ6 ⟨by omega, fun j hj => ⟨?_, ?_⟩⟩
  · rw [o6 71 (by decide), p4]
    show (if (j : Int) < _ then fA g2 145 j else _) = _
    rw [if_pos (by omega), u2_145]
  · rw [p6]
    show (if (j : Int) < _ then fA g4 146 j else _) = _
    rw [if_pos (by omega), o4 146 (by decide), u2_146]
def Wk73 : Nat := 2 ^ (cn 73 + 2) + 2 ^ cn 74 + 2 ^ cn 75
theorem Wk73_1 : Wk73.testBit (cn 73 + 2) = true ∧ Wk73.testBit (cn 74) = true ∧ Wk73.testBit (cn 75) = true := by decide +kernel
set_option maxHeartbeats 2000000 in
theorem pk_73 {d : Nat} (hd : 1 ≤ d) {g : pH} (hG : g_I eG g) {P : Option pv × pH → Prop} (hP : ∀ g1 : pH, J_ Wk73 g g1 → cpR 147 148 149 73 74 75 g g1 → P (none, g1)) {lv : List (Nat × pv)} (l0 : px_lg lv 0 = some (pvR 73)) (l1 : px_lg lv 1 = some (pvR 147)) : t_X d 70 0 lv [] g P := by
  have hJ : J_ Wk73 g g := J_rf hG
  obtain ⟨w_73_2, w_a74, w_a75⟩ := Wk73_1
  refine t_0 qk73_0 rfl (ld_a l0) ?_
  refine t_0 qk73_1 rfl (ld_a l1) ?_
  have r1 := cb_147_2 hJ.1
  refine t_0 qk73_2 rfl (pq_cf (y := 2) er_147 rfl) ?_
  refine t_0 qk73_5 rfl (ld_a l0) ?_
  refine t_0 qk73_6 rfl (cr_73_0 hJ.1) ?_
  refine t_0 qk73_9 rfl (pq_al el_74 rfl) ?_
  refine t_0 qk73_10 rfl (pq_mn (by omega) (by decide) ⟨by omega, by omega⟩ ⟨by omega, by omega⟩ (by omega)) ?_
  refine tw_c qk73_13 er_73 rfl hJ w_73_2 gx_73_2 (by decide) ⟨by omega, by omega⟩ (fun g2 hJ2 e2 => ?_)
  have v2 : cF g2 73 2 = cF g 147 2 := by rw [e2]; exact pc_at (by omega) (by omega)
  have u2_148 : fA g2 148 = fA g 148 := by rw [e2]; rfl
  have u2_149 : fA g2 149 = fA g 149 := by rw [e2]; rfl
  show t_X d 70 16 lv [] g2 P
  refine t_0 qk73_16 rfl (ld_a l1) ?_
  refine t_0 qk73_17 rfl (cr_147_0 hJ2.1) ?_
  refine t_0 qk73_20 rfl rfl ?_
  refine t_0 qk73_21 rfl (ld_a l0) ?_
  refine t_0 qk73_22 rfl (cr_73_0 hJ2.1) ?_
  refine t_0 qk73_25 rfl rfl ?_
  refine t_0 qk73_26 rfl (ld_a l0) ?_
  have r3 := cb_73_2 hJ2.1
  refine t_0 qk73_27 rfl (pq_cf (y := 2) er_73 rfl) ?_
  refine tw_cp qk73_30 (by omega) (by decide) hJ2 el_74 el_148 rfl ⟨by omega, by omega, by omega⟩ w_a74 (ga_148.trans ga_74.symm) (fun g4 hJ4 p4 o4 f4 => ?_)
  have v4_73 : cF g4 73 2 = cF g2 73 2 := congrArg (fun f => (f 73 2).toInt) f4
  have v4_147 : cF g4 147 2 = cF g2 147 2 := congrArg (fun f => (f 147 2).toInt) f4
  show t_X d 70 33 lv [] g4 P
  refine t_0 qk73_33 rfl (ld_a l1) ?_
  refine t_0 qk73_34 rfl (cr_147_1 hJ4.1) ?_
  refine t_0 qk73_37 rfl rfl ?_
  refine t_0 qk73_38 rfl (ld_a l0) ?_
  refine t_0 qk73_39 rfl (cr_73_1 hJ4.1) ?_
  refine t_0 qk73_42 rfl rfl ?_
  refine t_0 qk73_43 rfl (ld_a l0) ?_
  have r5 := cb_73_2 hJ4.1
  refine t_0 qk73_44 rfl (pq_cf (y := 2) er_73 rfl) ?_
  refine tw_cp qk73_47 (by omega) (by decide) hJ4 el_75 el_149 rfl ⟨by omega, by omega, by omega⟩ w_a75 (ga_149.trans ga_75.symm) (fun g6 hJ6 p6 o6 f6 => ?_)
  have v6_73 : cF g6 73 2 = cF g4 73 2 := congrArg (fun f => (f 73 2).toInt) f6
  have v6_147 : cF g6 147 2 = cF g4 147 2 := congrArg (fun f => (f 147 2).toInt) f6
  show t_X d 70 50 lv [] g6 P
  refine t_5 qk73_50 rfl rfl ?_
  refine hP g6 hJ6 ⟨by omega, fun j hj => ⟨?_, ?_⟩⟩
  · rw [o6 74 (by decide), p4]
    show (if (j : Int) < _ then fA g2 148 j else _) = _
    rw [if_pos (by omega), u2_148]
  · rw [p6]
    show (if (j : Int) < _ then fA g4 149 j else _) = _
    rw [if_pos (by omega), o4 149 (by decide), u2_149]
end
section
/-! the tie: rows of twos: the reference (printed by wip/e2/t16.py) -/
theorem qgcl9_35 : xe_look (xc 194) 35 = some (.iload_n 3, 1, 0, 0, 0) := by decide +kernel
theorem qgcl9_36 : xe_look (xc 194) 36 = some (.aload_n 0, 1, 0, 0, 0) := by decide +kernel
theorem qgcl9_37 : xe_look (xc 194) 37 = some (.getfield 212, 3, 12, 22, 1147) := by decide +kernel
theorem qgcl9_40 : xe_look (xc 194) 40 = some (.if_icmp .ge 60, 3, 0, 0, 0) := by decide +kernel
theorem qgcl9_43 : xe_look (xc 194) 43 = some (.aload_n 0, 1, 0, 0, 0) := by decide +kernel
theorem qgcl9_44 : xe_look (xc 194) 44 = some (.getfield 37, 3, 12, 11, 1148) := by decide +kernel
theorem qgcl9_47 : xe_look (xc 194) 47 = some (.iload_n 3, 1, 0, 0, 0) := by decide +kernel
theorem qgcl9_48 : xe_look (xc 194) 48 = some (.iaload, 1, 0, 0, 0) := by decide +kernel
theorem qgcl9_49 : xe_look (xc 194) 49 = some (.iload_n 1, 1, 0, 0, 0) := by decide +kernel
theorem qgcl9_50 : xe_look (xc 194) 50 = some (.if_icmp .eq 44, 3, 0, 0, 0) := by decide +kernel
theorem qgcl9_53 : xe_look (xc 194) 53 = some (.aload_n 0, 1, 0, 0, 0) := by decide +kernel
theorem qgcl9_54 : xe_look (xc 194) 54 = some (.getfield 40, 3, 12, 12, 1149) := by decide +kernel
theorem qgcl9_57 : xe_look (xc 194) 57 = some (.iload_n 3, 1, 0, 0, 0) := by decide +kernel
theorem qgcl9_58 : xe_look (xc 194) 58 = some (.iaload, 1, 0, 0, 0) := by decide +kernel
theorem qgcl9_59 : xe_look (xc 194) 59 = some (.iload_n 1, 1, 0, 0, 0) := by decide +kernel
theorem qgcl9_60 : xe_look (xc 194) 60 = some (.if_icmp .ne 6, 3, 0, 0, 0) := by decide +kernel
theorem qgcl9_63 : xe_look (xc 194) 63 = some (.goto 31, 3, 0, 0, 0) := by decide +kernel
theorem qgcl9_66 : xe_look (xc 194) 66 = some (.aload_n 0, 1, 0, 0, 0) := by decide +kernel
theorem qgcl9_67 : xe_look (xc 194) 67 = some (.getfield 37, 3, 12, 11, 1148) := by decide +kernel
theorem qgcl9_70 : xe_look (xc 194) 70 = some (.iload_n 2, 1, 0, 0, 0) := by decide +kernel
theorem qgcl9_71 : xe_look (xc 194) 71 = some (.aload_n 0, 1, 0, 0, 0) := by decide +kernel
theorem qgcl9_72 : xe_look (xc 194) 72 = some (.getfield 37, 3, 12, 11, 1148) := by decide +kernel
theorem qgcl9_75 : xe_look (xc 194) 75 = some (.iload_n 3, 1, 0, 0, 0) := by decide +kernel
theorem qgcl9_76 : xe_look (xc 194) 76 = some (.iaload, 1, 0, 0, 0) := by decide +kernel
theorem qgcl9_77 : xe_look (xc 194) 77 = some (.iastore, 1, 0, 0, 0) := by decide +kernel
theorem qgcl9_78 : xe_look (xc 194) 78 = some (.aload_n 0, 1, 0, 0, 0) := by decide +kernel
theorem qgcl9_79 : xe_look (xc 194) 79 = some (.getfield 40, 3, 12, 12, 1149) := by decide +kernel
theorem qgcl9_82 : xe_look (xc 194) 82 = some (.iload_n 2, 1, 0, 0, 0) := by decide +kernel
theorem qgcl9_83 : xe_look (xc 194) 83 = some (.aload_n 0, 1, 0, 0, 0) := by decide +kernel
theorem qgcl9_84 : xe_look (xc 194) 84 = some (.getfield 40, 3, 12, 12, 1149) := by decide +kernel
theorem qgcl9_87 : xe_look (xc 194) 87 = some (.iload_n 3, 1, 0, 0, 0) := by decide +kernel
theorem qgcl9_88 : xe_look (xc 194) 88 = some (.iaload, 1, 0, 0, 0) := by decide +kernel
theorem qgcl9_89 : xe_look (xc 194) 89 = some (.iastore, 1, 0, 0, 0) := by decide +kernel
theorem qgcl9_90 : xe_look (xc 194) 90 = some (.iload_n 2, 1, 0, 0, 0) := by decide +kernel
theorem qgcl9_91 : xe_look (xc 194) 91 = some (.iconst 1, 1, 0, 0, 0) := by decide +kernel
theorem qgcl9_92 : xe_look (xc 194) 92 = some (.iadd, 1, 0, 0, 0) := by decide +kernel
theorem qgcl9_93 : xe_look (xc 194) 93 = some (.istore_n 2, 1, 0, 0, 0) := by decide +kernel
theorem qgcl9_94 : xe_look (xc 194) 94 = some (.iinc 3 1, 3, 0, 0, 0) := by decide +kernel
theorem qgcl9_97 : xe_look (xc 194) 97 = some (.goto (-62), 3, 0, 0, 0) := by decide +kernel
theorem qgcl9_100 : xe_look (xc 194) 100 = some (.aload_n 0, 1, 0, 0, 0) := by decide +kernel
theorem qgcl9_101 : xe_look (xc 194) 101 = some (.iload_n 2, 1, 0, 0, 0) := by decide +kernel
theorem qgcl9_102 : xe_look (xc 194) 102 = some (.putfield 212, 3, 12, 22, 1147) := by decide +kernel
theorem qgli9_109 : xe_look (xc 194) 109 = some (.iload_n 3, 1, 0, 0, 0) := by decide +kernel
theorem qgli9_110 : xe_look (xc 194) 110 = some (.aload_n 0, 1, 0, 0, 0) := by decide +kernel
theorem qgli9_111 : xe_look (xc 194) 111 = some (.getfield 215, 3, 12, 23, 1117) := by decide +kernel
theorem qgli9_114 : xe_look (xc 194) 114 = some (.if_icmp .ge 60, 3, 0, 0, 0) := by decide +kernel
theorem qgli9_117 : xe_look (xc 194) 117 = some (.aload_n 0, 1, 0, 0, 0) := by decide +kernel
theorem qgli9_118 : xe_look (xc 194) 118 = some (.getfield 43, 3, 12, 13, 1120) := by decide +kernel
theorem qgli9_121 : xe_look (xc 194) 121 = some (.iload_n 3, 1, 0, 0, 0) := by decide +kernel
theorem qgli9_122 : xe_look (xc 194) 122 = some (.iaload, 1, 0, 0, 0) := by decide +kernel
theorem qgli9_123 : xe_look (xc 194) 123 = some (.iload_n 1, 1, 0, 0, 0) := by decide +kernel
theorem qgli9_124 : xe_look (xc 194) 124 = some (.if_icmp .eq 44, 3, 0, 0, 0) := by decide +kernel
theorem qgli9_127 : xe_look (xc 194) 127 = some (.aload_n 0, 1, 0, 0, 0) := by decide +kernel
theorem qgli9_128 : xe_look (xc 194) 128 = some (.getfield 46, 3, 12, 14, 1118) := by decide +kernel
theorem qgli9_131 : xe_look (xc 194) 131 = some (.iload_n 3, 1, 0, 0, 0) := by decide +kernel
theorem qgli9_132 : xe_look (xc 194) 132 = some (.iaload, 1, 0, 0, 0) := by decide +kernel
theorem qgli9_133 : xe_look (xc 194) 133 = some (.iload_n 1, 1, 0, 0, 0) := by decide +kernel
theorem qgli9_134 : xe_look (xc 194) 134 = some (.if_icmp .ne 6, 3, 0, 0, 0) := by decide +kernel
theorem qgli9_137 : xe_look (xc 194) 137 = some (.goto 31, 3, 0, 0, 0) := by decide +kernel
theorem qgli9_140 : xe_look (xc 194) 140 = some (.aload_n 0, 1, 0, 0, 0) := by decide +kernel
theorem qgli9_141 : xe_look (xc 194) 141 = some (.getfield 43, 3, 12, 13, 1120) := by decide +kernel
theorem qgli9_144 : xe_look (xc 194) 144 = some (.iload_n 2, 1, 0, 0, 0) := by decide +kernel
theorem qgli9_145 : xe_look (xc 194) 145 = some (.aload_n 0, 1, 0, 0, 0) := by decide +kernel
theorem qgli9_146 : xe_look (xc 194) 146 = some (.getfield 43, 3, 12, 13, 1120) := by decide +kernel
theorem qgli9_149 : xe_look (xc 194) 149 = some (.iload_n 3, 1, 0, 0, 0) := by decide +kernel
theorem qgli9_150 : xe_look (xc 194) 150 = some (.iaload, 1, 0, 0, 0) := by decide +kernel
theorem qgli9_151 : xe_look (xc 194) 151 = some (.iastore, 1, 0, 0, 0) := by decide +kernel
theorem qgli9_152 : xe_look (xc 194) 152 = some (.aload_n 0, 1, 0, 0, 0) := by decide +kernel
theorem qgli9_153 : xe_look (xc 194) 153 = some (.getfield 46, 3, 12, 14, 1118) := by decide +kernel
theorem qgli9_156 : xe_look (xc 194) 156 = some (.iload_n 2, 1, 0, 0, 0) := by decide +kernel
theorem qgli9_157 : xe_look (xc 194) 157 = some (.aload_n 0, 1, 0, 0, 0) := by decide +kernel
theorem qgli9_158 : xe_look (xc 194) 158 = some (.getfield 46, 3, 12, 14, 1118) := by decide +kernel
theorem qgli9_161 : xe_look (xc 194) 161 = some (.iload_n 3, 1, 0, 0, 0) := by decide +kernel
theorem qgli9_162 : xe_look (xc 194) 162 = some (.iaload, 1, 0, 0, 0) := by decide +kernel
theorem qgli9_163 : xe_look (xc 194) 163 = some (.iastore, 1, 0, 0, 0) := by decide +kernel
theorem qgli9_164 : xe_look (xc 194) 164 = some (.iload_n 2, 1, 0, 0, 0) := by decide +kernel
theorem qgli9_165 : xe_look (xc 194) 165 = some (.iconst 1, 1, 0, 0, 0) := by decide +kernel
theorem qgli9_166 : xe_look (xc 194) 166 = some (.iadd, 1, 0, 0, 0) := by decide +kernel
theorem qgli9_167 : xe_look (xc 194) 167 = some (.istore_n 2, 1, 0, 0, 0) := by decide +kernel
theorem qgli9_168 : xe_look (xc 194) 168 = some (.iinc 3 1, 3, 0, 0, 0) := by decide +kernel
theorem qgli9_171 : xe_look (xc 194) 171 = some (.goto (-62), 3, 0, 0, 0) := by decide +kernel
theorem qgli9_174 : xe_look (xc 194) 174 = some (.aload_n 0, 1, 0, 0, 0) := by decide +kernel
theorem qgli9_175 : xe_look (xc 194) 175 = some (.iload_n 2, 1, 0, 0, 0) := by decide +kernel
theorem qgli9_176 : xe_look (xc 194) 176 = some (.putfield 215, 3, 12, 23, 1117) := by decide +kernel
theorem qmcl9_0 : xe_look (xc 177) 0 = some (.aload_n 0, 1, 0, 0, 0) := by decide +kernel
theorem qmcl9_1 : xe_look (xc 177) 1 = some (.iload_n 1, 1, 0, 0, 0) := by decide +kernel
theorem qmcl9_2 : xe_look (xc 177) 2 = some (.invokevirtual 205, 3, 0, 205, 1130) := by decide +kernel
theorem qmcl9_5 : xe_look (xc 177) 5 = some (.ifCond .eq 25, 3, 0, 0, 0) := by decide +kernel
theorem qmcl9_8 : xe_look (xc 177) 8 = some (.aload_n 0, 1, 0, 0, 0) := by decide +kernel
theorem qmcl9_9 : xe_look (xc 177) 9 = some (.iload_n 2, 1, 0, 0, 0) := by decide +kernel
theorem qmcl9_10 : xe_look (xc 177) 10 = some (.invokevirtual 205, 3, 0, 205, 1130) := by decide +kernel
theorem qmcl9_13 : xe_look (xc 177) 13 = some (.ifCond .eq 17, 3, 0, 0, 0) := by decide +kernel
theorem qmcl9_16 : xe_look (xc 177) 16 = some (.iload_n 1, 1, 0, 0, 0) := by decide +kernel
theorem qmcl9_17 : xe_look (xc 177) 17 = some (.iload_n 2, 1, 0, 0, 0) := by decide +kernel
theorem qmcl9_18 : xe_look (xc 177) 18 = some (.if_icmp .eq 12, 3, 0, 0, 0) := by decide +kernel
theorem qmcl9_21 : xe_look (xc 177) 21 = some (.aload_n 0, 1, 0, 0, 0) := by decide +kernel
theorem qmcl9_22 : xe_look (xc 177) 22 = some (.getfield 212, 3, 12, 22, 1147) := by decide +kernel
theorem qmcl9_25 : xe_look (xc 177) 25 = some (.bipush 24, 2, 0, 0, 0) := by decide +kernel
theorem qmcl9_27 : xe_look (xc 177) 27 = some (.if_icmp .ne 5, 3, 0, 0, 0) := by decide +kernel
theorem qmcl9_30 : xe_look (xc 177) 30 = some (.iconst (-1), 1, 0, 0, 0) := by decide +kernel
theorem qmcl9_31 : xe_look (xc 177) 31 = some (.ireturn, 1, 0, 0, 0) := by decide +kernel
theorem qmcl9_32 : xe_look (xc 177) 32 = some (.aload_n 0, 1, 0, 0, 0) := by decide +kernel
theorem qmcl9_33 : xe_look (xc 177) 33 = some (.getfield 37, 3, 12, 11, 1148) := by decide +kernel
theorem qmcl9_36 : xe_look (xc 177) 36 = some (.aload_n 0, 1, 0, 0, 0) := by decide +kernel
theorem qmcl9_37 : xe_look (xc 177) 37 = some (.getfield 212, 3, 12, 22, 1147) := by decide +kernel
theorem qmcl9_40 : xe_look (xc 177) 40 = some (.iload_n 1, 1, 0, 0, 0) := by decide +kernel
theorem qmcl9_41 : xe_look (xc 177) 41 = some (.iastore, 1, 0, 0, 0) := by decide +kernel
theorem qmcl9_42 : xe_look (xc 177) 42 = some (.aload_n 0, 1, 0, 0, 0) := by decide +kernel
theorem qmcl9_43 : xe_look (xc 177) 43 = some (.getfield 40, 3, 12, 12, 1149) := by decide +kernel
theorem qmcl9_46 : xe_look (xc 177) 46 = some (.aload_n 0, 1, 0, 0, 0) := by decide +kernel
theorem qmcl9_47 : xe_look (xc 177) 47 = some (.getfield 212, 3, 12, 22, 1147) := by decide +kernel
theorem qmcl9_50 : xe_look (xc 177) 50 = some (.iload_n 2, 1, 0, 0, 0) := by decide +kernel
theorem qmcl9_51 : xe_look (xc 177) 51 = some (.iastore, 1, 0, 0, 0) := by decide +kernel
theorem qmcl9_52 : xe_look (xc 177) 52 = some (.aload_n 0, 1, 0, 0, 0) := by decide +kernel
theorem qmcl9_53 : xe_look (xc 177) 53 = some (.aload_n 0, 1, 0, 0, 0) := by decide +kernel
theorem qmcl9_54 : xe_look (xc 177) 54 = some (.getfield 212, 3, 12, 22, 1147) := by decide +kernel
theorem qmcl9_57 : xe_look (xc 177) 57 = some (.iconst 1, 1, 0, 0, 0) := by decide +kernel
theorem qmcl9_58 : xe_look (xc 177) 58 = some (.iadd, 1, 0, 0, 0) := by decide +kernel
theorem qmcl9_59 : xe_look (xc 177) 59 = some (.putfield 212, 3, 12, 22, 1147) := by decide +kernel
theorem qmcl9_62 : xe_look (xc 177) 62 = some (.aload_n 0, 1, 0, 0, 0) := by decide +kernel
theorem qmcl9_63 : xe_look (xc 177) 63 = some (.getfield 212, 3, 12, 22, 1147) := by decide +kernel
theorem qmcl9_66 : xe_look (xc 177) 66 = some (.ireturn, 1, 0, 0, 0) := by decide +kernel
theorem qmli9_0 : xe_look (xc 220) 0 = some (.aload_n 0, 1, 0, 0, 0) := by decide +kernel
theorem qmli9_1 : xe_look (xc 220) 1 = some (.iload_n 1, 1, 0, 0, 0) := by decide +kernel
theorem qmli9_2 : xe_look (xc 220) 2 = some (.invokevirtual 205, 3, 0, 205, 1130) := by decide +kernel
theorem qmli9_5 : xe_look (xc 220) 5 = some (.ifCond .eq 25, 3, 0, 0, 0) := by decide +kernel
theorem qmli9_8 : xe_look (xc 220) 8 = some (.aload_n 0, 1, 0, 0, 0) := by decide +kernel
theorem qmli9_9 : xe_look (xc 220) 9 = some (.iload_n 2, 1, 0, 0, 0) := by decide +kernel
theorem qmli9_10 : xe_look (xc 220) 10 = some (.invokevirtual 205, 3, 0, 205, 1130) := by decide +kernel
theorem qmli9_13 : xe_look (xc 220) 13 = some (.ifCond .eq 17, 3, 0, 0, 0) := by decide +kernel
theorem qmli9_16 : xe_look (xc 220) 16 = some (.iload_n 1, 1, 0, 0, 0) := by decide +kernel
theorem qmli9_17 : xe_look (xc 220) 17 = some (.iload_n 2, 1, 0, 0, 0) := by decide +kernel
theorem qmli9_18 : xe_look (xc 220) 18 = some (.if_icmp .eq 12, 3, 0, 0, 0) := by decide +kernel
theorem qmli9_21 : xe_look (xc 220) 21 = some (.aload_n 0, 1, 0, 0, 0) := by decide +kernel
theorem qmli9_22 : xe_look (xc 220) 22 = some (.getfield 215, 3, 12, 23, 1117) := by decide +kernel
theorem qmli9_25 : xe_look (xc 220) 25 = some (.bipush 12, 2, 0, 0, 0) := by decide +kernel
theorem qmli9_27 : xe_look (xc 220) 27 = some (.if_icmp .ne 5, 3, 0, 0, 0) := by decide +kernel
theorem qmli9_30 : xe_look (xc 220) 30 = some (.iconst (-1), 1, 0, 0, 0) := by decide +kernel
theorem qmli9_31 : xe_look (xc 220) 31 = some (.ireturn, 1, 0, 0, 0) := by decide +kernel
theorem qmli9_32 : xe_look (xc 220) 32 = some (.aload_n 0, 1, 0, 0, 0) := by decide +kernel
theorem qmli9_33 : xe_look (xc 220) 33 = some (.getfield 43, 3, 12, 13, 1120) := by decide +kernel
theorem qmli9_36 : xe_look (xc 220) 36 = some (.aload_n 0, 1, 0, 0, 0) := by decide +kernel
theorem qmli9_37 : xe_look (xc 220) 37 = some (.getfield 215, 3, 12, 23, 1117) := by decide +kernel
theorem qmli9_40 : xe_look (xc 220) 40 = some (.iload_n 1, 1, 0, 0, 0) := by decide +kernel
theorem qmli9_41 : xe_look (xc 220) 41 = some (.iastore, 1, 0, 0, 0) := by decide +kernel
theorem qmli9_42 : xe_look (xc 220) 42 = some (.aload_n 0, 1, 0, 0, 0) := by decide +kernel
theorem qmli9_43 : xe_look (xc 220) 43 = some (.getfield 46, 3, 12, 14, 1118) := by decide +kernel
theorem qmli9_46 : xe_look (xc 220) 46 = some (.aload_n 0, 1, 0, 0, 0) := by decide +kernel
theorem qmli9_47 : xe_look (xc 220) 47 = some (.getfield 215, 3, 12, 23, 1117) := by decide +kernel
theorem qmli9_50 : xe_look (xc 220) 50 = some (.iload_n 2, 1, 0, 0, 0) := by decide +kernel
theorem qmli9_51 : xe_look (xc 220) 51 = some (.iastore, 1, 0, 0, 0) := by decide +kernel
theorem qmli9_52 : xe_look (xc 220) 52 = some (.aload_n 0, 1, 0, 0, 0) := by decide +kernel
theorem qmli9_53 : xe_look (xc 220) 53 = some (.aload_n 0, 1, 0, 0, 0) := by decide +kernel
theorem qmli9_54 : xe_look (xc 220) 54 = some (.getfield 215, 3, 12, 23, 1117) := by decide +kernel
theorem qmli9_57 : xe_look (xc 220) 57 = some (.iconst 1, 1, 0, 0, 0) := by decide +kernel
theorem qmli9_58 : xe_look (xc 220) 58 = some (.iadd, 1, 0, 0, 0) := by decide +kernel
theorem qmli9_59 : xe_look (xc 220) 59 = some (.putfield 215, 3, 12, 23, 1117) := by decide +kernel
theorem qmli9_62 : xe_look (xc 220) 62 = some (.aload_n 0, 1, 0, 0, 0) := by decide +kernel
theorem qmli9_63 : xe_look (xc 220) 63 = some (.getfield 215, 3, 12, 23, 1117) := by decide +kernel
theorem qmli9_66 : xe_look (xc 220) 66 = some (.ireturn, 1, 0, 0, 0) := by decide +kernel
theorem qxm_0 : xe_look (xc 194) 0 = some (.aload_n 0, 1, 0, 0, 0) := by decide +kernel
theorem qxm_1 : xe_look (xc 194) 1 = some (.iload_n 1, 1, 0, 0, 0) := by decide +kernel
theorem qxm_2 : xe_look (xc 194) 2 = some (.invokevirtual 205, 3, 0, 205, 1130) := by decide +kernel
theorem qxm_5 : xe_look (xc 194) 5 = some (.ifCond .ne 5, 3, 0, 0, 0) := by decide +kernel
theorem qxm_8 : xe_look (xc 194) 8 = some (.iconst 0, 1, 0, 0, 0) := by decide +kernel
theorem qxm_9 : xe_look (xc 194) 9 = some (.ireturn, 1, 0, 0, 0) := by decide +kernel
theorem qxm_10 : xe_look (xc 194) 10 = some (.aload_n 0, 1, 0, 0, 0) := by decide +kernel
theorem qxm_11 : xe_look (xc 194) 11 = some (.aload_n 0, 1, 0, 0, 0) := by decide +kernel
theorem qxm_12 : xe_look (xc 194) 12 = some (.getfield 183, 3, 12, 0, 1158) := by decide +kernel
theorem qxm_15 : xe_look (xc 194) 15 = some (.iconst 1, 1, 0, 0, 0) := by decide +kernel
theorem qxm_16 : xe_look (xc 194) 16 = some (.iload_n 1, 1, 0, 0, 0) := by decide +kernel
theorem qxm_17 : xe_look (xc 194) 17 = some (.ishl, 1, 0, 0, 0) := by decide +kernel
theorem qxm_18 : xe_look (xc 194) 18 = some (.iconst (-1), 1, 0, 0, 0) := by decide +kernel
theorem qxm_19 : xe_look (xc 194) 19 = some (.ixor, 1, 0, 0, 0) := by decide +kernel
theorem qxm_20 : xe_look (xc 194) 20 = some (.iand, 1, 0, 0, 0) := by decide +kernel
theorem qxm_21 : xe_look (xc 194) 21 = some (.putfield 183, 3, 12, 0, 1158) := by decide +kernel
theorem qxm_24 : xe_look (xc 194) 24 = some (.aload_n 0, 1, 0, 0, 0) := by decide +kernel
theorem qxm_25 : xe_look (xc 194) 25 = some (.getfield 34, 3, 12, 10, 1156) := by decide +kernel
theorem qxm_28 : xe_look (xc 194) 28 = some (.iload_n 1, 1, 0, 0, 0) := by decide +kernel
theorem qxm_29 : xe_look (xc 194) 29 = some (.iconst (-1), 1, 0, 0, 0) := by decide +kernel
theorem qxm_30 : xe_look (xc 194) 30 = some (.iastore, 1, 0, 0, 0) := by decide +kernel
theorem qxm_31 : xe_look (xc 194) 31 = some (.iconst 0, 1, 0, 0, 0) := by decide +kernel
theorem qxm_32 : xe_look (xc 194) 32 = some (.istore_n 2, 1, 0, 0, 0) := by decide +kernel
theorem qxm_33 : xe_look (xc 194) 33 = some (.iconst 0, 1, 0, 0, 0) := by decide +kernel
theorem qxm_34 : xe_look (xc 194) 34 = some (.istore_n 3, 1, 0, 0, 0) := by decide +kernel
theorem qxm_105 : xe_look (xc 194) 105 = some (.iconst 0, 1, 0, 0, 0) := by decide +kernel
theorem qxm_106 : xe_look (xc 194) 106 = some (.istore_n 2, 1, 0, 0, 0) := by decide +kernel
theorem qxm_107 : xe_look (xc 194) 107 = some (.iconst 0, 1, 0, 0, 0) := by decide +kernel
theorem qxm_108 : xe_look (xc 194) 108 = some (.istore_n 3, 1, 0, 0, 0) := by decide +kernel
theorem qxm_179 : xe_look (xc 194) 179 = some (.iconst 1, 1, 0, 0, 0) := by decide +kernel
theorem qxm_180 : xe_look (xc 194) 180 = some (.ireturn, 1, 0, 0, 0) := by decide +kernel
theorem gf_23 : eG (cn 196 + 23) = (0, 12, []) := by decide +kernel
theorem ff_10 : (eG (cn 196 + 10)).2.2 = [206] := by decide +kernel
theorem ar_10 {d i : Nat} {lv : List (Nat × pv)} {r : List pv} {g : pH} (hG : g_I eG g) : px_push eL d none (.getfield i) 12 10 lv (pvR 196 :: r) g = some (pvR 205 :: r) := pget el_196 (gI_r (r := 205) hG el_196 (Nat.le_of_ble_eq_true rfl) (y := 10) rfl ff_10)
theorem ff_13 : (eG (cn 196 + 13)).2.2 = [209] := by decide +kernel
theorem ar_13 {d i : Nat} {lv : List (Nat × pv)} {r : List pv} {g : pH} (hG : g_I eG g) : px_push eL d none (.getfield i) 12 13 lv (pvR 196 :: r) g = some (pvR 208 :: r) := pget el_196 (gI_r (r := 208) hG el_196 (Nat.le_of_ble_eq_true rfl) (y := 13) rfl ff_13)
theorem ff_14 : (eG (cn 196 + 14)).2.2 = [210] := by decide +kernel
theorem ar_14 {d i : Nat} {lv : List (Nat × pv)} {r : List pv} {g : pH} (hG : g_I eG g) : px_push eL d none (.getfield i) 12 14 lv (pvR 196 :: r) g = some (pvR 209 :: r) := pget el_196 (gI_r (r := 209) hG el_196 (Nat.le_of_ble_eq_true rfl) (y := 14) rfl ff_14)
theorem ff_85 : (eG (cn 196 + 85)).2.2 = [250] := by decide +kernel
theorem ar_85 {d i : Nat} {lv : List (Nat × pv)} {r : List pv} {g : pH} (hG : g_I eG g) : px_push eL d none (.getfield i) 12 85 lv (pvR 196 :: r) g = some (pvR 249 :: r) := pget el_196 (gI_r (r := 249) hG el_196 (Nat.le_of_ble_eq_true rfl) (y := 85) rfl ff_85)
theorem ff_86 : (eG (cn 196 + 86)).2.2 = [251] := by decide +kernel
theorem ar_86 {d i : Nat} {lv : List (Nat × pv)} {r : List pv} {g : pH} (hG : g_I eG g) : px_push eL d none (.getfield i) 12 86 lv (pvR 196 :: r) g = some (pvR 250 :: r) := pget el_196 (gI_r (r := 250) hG el_196 (Nat.le_of_ble_eq_true rfl) (y := 86) rfl ff_86)
theorem ff_87 : (eG (cn 196 + 87)).2.2 = [252] := by decide +kernel
theorem ar_87 {d i : Nat} {lv : List (Nat × pv)} {r : List pv} {g : pH} (hG : g_I eG g) : px_push eL d none (.getfield i) 12 87 lv (pvR 196 :: r) g = some (pvR 251 :: r) := pget el_196 (gI_r (r := 251) hG el_196 (Nat.le_of_ble_eq_true rfl) (y := 87) rfl ff_87)
theorem ff_88 : (eG (cn 196 + 88)).2.2 = [253] := by decide +kernel
theorem ar_88 {d i : Nat} {lv : List (Nat × pv)} {r : List pv} {g : pH} (hG : g_I eG g) : px_push eL d none (.getfield i) 12 88 lv (pvR 196 :: r) g = some (pvR 252 :: r) := pget el_196 (gI_r (r := 252) hG el_196 (Nat.le_of_ble_eq_true rfl) (y := 88) rfl ff_88)
theorem el_205 : eL[205]? = some (1, 32) := by decide +kernel
theorem Wclm : kk_41.2.2.2.1.testBit (cn 206) = true ∧ kk_41.2.2.2.1.testBit (cn 207) = true ∧ kk_41.2.2.2.1.testBit (cn 196 + 22) = true ∧ kk_41.2.2.2.1 &&& eDX = 0 := by decide +kernel
set_option maxHeartbeats 2000000 in
theorem mc_cl {d : Nat} (hd : 2 ≤ d) {g : pH} (hG : g_I eG g) {i j : Int} (hi : -2147483648 ≤ i ∧ i ≤ 2147483647) (hj : -2147483648 ≤ j ∧ j ≤ 2147483647) {P : Option pv × pH → Prop} (hA : toM g i ∧ toM g j ∧ i ≠ j ∧ fF g 22 < 24 → ∀ g1 : pH, J_ kk_41.2.2.2.1 g g1 → fF g1 22 = fF g 22 + 1 → fA g1 206 = updI (fA g 206) (fF g 22).toNat i → fA g1 207 = updI (fA g 207) (fF g 22).toNat j → P (some (oI (fF g 22 + 1)), g1)) (hR : ¬ (toM g i ∧ toM g j ∧ i ≠ j ∧ fF g 22 < 24) → P (some (oI (-1)), g)) {lv : List (Nat × pv)} (l0 : px_lg lv 0 = some (pvR 196)) (l1 : px_lg lv 1 = some (oI i)) (l2 : px_lg lv 2 = some (oI j)) : t_X d 177 0 lv [] g P := by
  have hJ : J_ kk_41.2.2.2.1 g g := J_rf hG
  obtain ⟨w_a206, w_a207, w_22, -⟩ := Wclm
  refine t_0 qmcl9_0 rfl (ld_a l0) ?_
  refine t_0 qmcl9_1 rfl (ld_i l1) ?_
  refine t_3 qmcl9_2 rfl (ar := ([pvR 196, oI (i)], [])) (pcal_v1 rfl rfl el_196) ⟨by omega, Nat.le_of_ble_eq_true rfl, Nat.le_of_ble_eq_true rfl, rfl⟩ ?_
  refine it_run (by omega) (by omega) rfl rfl (fun m1 hm1 e1 c1 => ?_) (fun c1 => ?_)
  · show t_X d 177 5 lv [oI (1)] g P
    refine tz_eq qmcl9_5 (by decide) ⟨by omega, by omega⟩ (fun c2 => absurd c2 (by omega)) (fun c2 => ?_)
    show t_X d 177 8 lv [] g P
    refine t_0 qmcl9_8 rfl (ld_a l0) ?_
    refine t_0 qmcl9_9 rfl (ld_i l2) ?_
    refine t_3 qmcl9_10 rfl (ar := ([pvR 196, oI (j)], [])) (pcal_v1 rfl rfl el_196) ⟨by omega, Nat.le_of_ble_eq_true rfl, Nat.le_of_ble_eq_true rfl, rfl⟩ ?_
    refine it_run (by omega) (by omega) rfl rfl (fun m3 hm3 e3 c3 => ?_) (fun c3 => ?_)
    · show t_X d 177 13 lv [oI (1)] g P
      refine tz_eq qmcl9_13 (by decide) ⟨by omega, by omega⟩ (fun c4 => absurd c4 (by omega)) (fun c4 => ?_)
      show t_X d 177 16 lv [] g P
      refine t_0 qmcl9_16 rfl (ld_i l1) ?_
      refine t_0 qmcl9_17 rfl (ld_i l2) ?_
      refine tb_eq qmcl9_18 (by decide) ⟨by omega, by omega⟩ ⟨by omega, by omega⟩ (fun c5 => ?_) (fun c5 => ?_)
      · show t_X d 177 30 lv [] g P
        refine t_0 qmcl9_30 rfl rfl ?_
        refine t_5 qmcl9_31 rfl rfl ?_
        exact hR (fun z => by have z1 := z.2.2.1; have z2 := z.2.2.2; omega)
      · show t_X d 177 21 lv [] g P
        refine t_0 qmcl9_21 rfl (ld_a l0) ?_
        have r6 := gb_f hJ.1 (y := 22) rfl rfl gf_22
        refine t_0 qmcl9_22 rfl (pq_gf (y := 22) rfl) ?_
        refine t_0 qmcl9_25 rfl (pq_b (by decide)) ?_
        refine tb_ne qmcl9_27 (by decide) ⟨by omega, by omega⟩ ⟨by omega, by omega⟩ (fun c7 => ?_) (fun c7 => ?_)
        · show t_X d 177 32 lv [] g P
          refine t_0 qmcl9_32 rfl (ld_a l0) ?_
          refine t_0 qmcl9_33 rfl (ar_11 hJ.1) ?_
          refine t_0 qmcl9_36 rfl (ld_a l0) ?_
          have r8 := gb_f hJ.1 (y := 22) rfl rfl gf_22
          refine t_0 qmcl9_37 rfl (pq_gf (y := 22) rfl) ?_
          refine t_0 qmcl9_40 rfl (ld_i l1) ?_
          refine tw_i qmcl9_41 hJ el_206 rfl w_a206 ga_206 ⟨by omega, by omega⟩ (rg31 ⟨by omega, by omega⟩) (fun g9 hJ9 e9 => ?_)
          have u9_206 : fA g9 206 = updI (fA g 206) (fF g 22).toNat (i) := by rw [e9]; exact fA_pu2 ⟨by omega, by omega⟩
          have u9_207 : fA g9 207 = fA g 207 := by rw [e9]; exact fA_pn (by decide)
          have v9 : fF g9 22 = fF g 22 := by rw [e9]; rfl
          show t_X d 177 42 lv [] g9 P
          refine t_0 qmcl9_42 rfl (ld_a l0) ?_
          refine t_0 qmcl9_43 rfl (ar_12 hJ9.1) ?_
          refine t_0 qmcl9_46 rfl (ld_a l0) ?_
          have r10 := gb_f hJ9.1 (y := 22) rfl rfl gf_22
          refine t_0 qmcl9_47 rfl (pq_gf (y := 22) rfl) ?_
          refine t_0 qmcl9_50 rfl (ld_i l2) ?_
          refine tw_i qmcl9_51 hJ9 el_207 rfl w_a207 ga_207 ⟨by omega, by omega⟩ (rg31 ⟨by omega, by omega⟩) (fun g11 hJ11 e11 => ?_)
          have u11_207 : fA g11 207 = updI (fA g9 207) (fF g9 22).toNat (j) := by rw [e11]; exact fA_pu2 ⟨by omega, by omega⟩
          have u11_206 : fA g11 206 = fA g9 206 := by rw [e11]; exact fA_pn (by decide)
          have v11 : fF g11 22 = fF g9 22 := by rw [e11]; rfl
          show t_X d 177 52 lv [] g11 P
          refine t_0 qmcl9_52 rfl (ld_a l0) ?_
          refine t_0 qmcl9_53 rfl (ld_a l0) ?_
          have r12 := gb_f hJ11.1 (y := 22) rfl rfl gf_22
          refine t_0 qmcl9_54 rfl (pq_gf (y := 22) rfl) ?_
          refine t_0 qmcl9_57 rfl rfl ?_
          refine t_0 qmcl9_58 rfl pq_add ?_
          refine tw_c qmcl9_59 el_196 rfl hJ11 w_22 gf_22 (by decide) ⟨by omega, by omega⟩ (fun g13 hJ13 e13 => ?_)
          have v13 : fF g13 22 = (fF g11 22) + 1 := by rw [e13]; exact pc_at (by omega) (by omega)
          have u13_206 : fA g13 206 = fA g11 206 := by rw [e13]; rfl
          have u13_207 : fA g13 207 = fA g11 207 := by rw [e13]; rfl
          show t_X d 177 62 lv [] g13 P
          refine t_0 qmcl9_62 rfl (ld_a l0) ?_
          have r14 := gb_f hJ13.1 (y := 22) rfl rfl gf_22
          refine t_0 qmcl9_63 rfl (pq_gf (y := 22) rfl) ?_
          refine t_5 qmcl9_66 rfl rfl ?_
          rw [show fF g13 22 = fF g 22 + 1 by omega]
          refine hA ⟨⟨m1, hm1, e1, c1⟩, ⟨m3, hm3, e3, c3⟩, by omega, by omega⟩ g13 hJ13 (by omega) ?_ ?_
          · simp only [u13_206, u11_206, u9_206, v9, v11]
          · simp only [u13_207, u11_207, u9_207, v9, v11]
        · show t_X d 177 30 lv [] g P
          refine t_0 qmcl9_30 rfl rfl ?_
          refine t_5 qmcl9_31 rfl rfl ?_
          exact hR (fun z => by have z1 := z.2.2.1; have z2 := z.2.2.2; omega)
    · show t_X d 177 13 lv [oI (0)] g P
      refine tz_eq qmcl9_13 (by decide) ⟨by omega, by omega⟩ (fun c15 => ?_) (fun c15 => absurd c15 (by omega))
      show t_X d 177 30 lv [] g P
      refine t_0 qmcl9_30 rfl rfl ?_
      refine t_5 qmcl9_31 rfl rfl ?_
      exact hR (fun z => c3 z.2.1)
  · show t_X d 177 5 lv [oI (0)] g P
    refine tz_eq qmcl9_5 (by decide) ⟨by omega, by omega⟩ (fun c16 => ?_) (fun c16 => absurd c16 (by omega))
    show t_X d 177 30 lv [] g P
    refine t_0 qmcl9_30 rfl rfl ?_
    refine t_5 qmcl9_31 rfl rfl ?_
    exact hR (fun z => c1 z.1)
theorem Wlim : kk_47.2.2.2.1.testBit (cn 208) = true ∧ kk_47.2.2.2.1.testBit (cn 209) = true ∧ kk_47.2.2.2.1.testBit (cn 196 + 23) = true ∧ kk_47.2.2.2.1 &&& eDX = 0 := by decide +kernel
set_option maxHeartbeats 2000000 in
theorem mc_li {d : Nat} (hd : 2 ≤ d) {g : pH} (hG : g_I eG g) {i j : Int} (hi : -2147483648 ≤ i ∧ i ≤ 2147483647) (hj : -2147483648 ≤ j ∧ j ≤ 2147483647) {P : Option pv × pH → Prop} (hA : toM g i ∧ toM g j ∧ i ≠ j ∧ fF g 23 < 12 → ∀ g1 : pH, J_ kk_47.2.2.2.1 g g1 → fF g1 23 = fF g 23 + 1 → fA g1 208 = updI (fA g 208) (fF g 23).toNat i → fA g1 209 = updI (fA g 209) (fF g 23).toNat j → P (some (oI (fF g 23 + 1)), g1)) (hR : ¬ (toM g i ∧ toM g j ∧ i ≠ j ∧ fF g 23 < 12) → P (some (oI (-1)), g)) {lv : List (Nat × pv)} (l0 : px_lg lv 0 = some (pvR 196)) (l1 : px_lg lv 1 = some (oI i)) (l2 : px_lg lv 2 = some (oI j)) : t_X d 220 0 lv [] g P := by
  have hJ : J_ kk_47.2.2.2.1 g g := J_rf hG
  obtain ⟨w_a208, w_a209, w_23, -⟩ := Wlim
  refine t_0 qmli9_0 rfl (ld_a l0) ?_
  refine t_0 qmli9_1 rfl (ld_i l1) ?_
  refine t_3 qmli9_2 rfl (ar := ([pvR 196, oI (i)], [])) (pcal_v1 rfl rfl el_196) ⟨by omega, Nat.le_of_ble_eq_true rfl, Nat.le_of_ble_eq_true rfl, rfl⟩ ?_
  refine it_run (by omega) (by omega) rfl rfl (fun m1 hm1 e1 c1 => ?_) (fun c1 => ?_)
  · show t_X d 220 5 lv [oI (1)] g P
    refine tz_eq qmli9_5 (by decide) ⟨by omega, by omega⟩ (fun c2 => absurd c2 (by omega)) (fun c2 => ?_)
    show t_X d 220 8 lv [] g P
    refine t_0 qmli9_8 rfl (ld_a l0) ?_
    refine t_0 qmli9_9 rfl (ld_i l2) ?_
    refine t_3 qmli9_10 rfl (ar := ([pvR 196, oI (j)], [])) (pcal_v1 rfl rfl el_196) ⟨by omega, Nat.le_of_ble_eq_true rfl, Nat.le_of_ble_eq_true rfl, rfl⟩ ?_
    refine it_run (by omega) (by omega) rfl rfl (fun m3 hm3 e3 c3 => ?_) (fun c3 => ?_)
    · show t_X d 220 13 lv [oI (1)] g P
      refine tz_eq qmli9_13 (by decide) ⟨by omega, by omega⟩ (fun c4 => absurd c4 (by omega)) (fun c4 => ?_)
      show t_X d 220 16 lv [] g P
      refine t_0 qmli9_16 rfl (ld_i l1) ?_
      refine t_0 qmli9_17 rfl (ld_i l2) ?_
      refine tb_eq qmli9_18 (by decide) ⟨by omega, by omega⟩ ⟨by omega, by omega⟩ (fun c5 => ?_) (fun c5 => ?_)
      · show t_X d 220 30 lv [] g P
        refine t_0 qmli9_30 rfl rfl ?_
        refine t_5 qmli9_31 rfl rfl ?_
        exact hR (fun z => by have z1 := z.2.2.1; have z2 := z.2.2.2; omega)
      · show t_X d 220 21 lv [] g P
        refine t_0 qmli9_21 rfl (ld_a l0) ?_
        have r6 := gb_f hJ.1 (y := 23) rfl rfl gf_23
        refine t_0 qmli9_22 rfl (pq_gf (y := 23) rfl) ?_
        refine t_0 qmli9_25 rfl (pq_b (by decide)) ?_
        refine tb_ne qmli9_27 (by decide) ⟨by omega, by omega⟩ ⟨by omega, by omega⟩ (fun c7 => ?_) (fun c7 => ?_)
        · show t_X d 220 32 lv [] g P
          refine t_0 qmli9_32 rfl (ld_a l0) ?_
          refine t_0 qmli9_33 rfl (ar_13 hJ.1) ?_
          refine t_0 qmli9_36 rfl (ld_a l0) ?_
          have r8 := gb_f hJ.1 (y := 23) rfl rfl gf_23
          refine t_0 qmli9_37 rfl (pq_gf (y := 23) rfl) ?_
          refine t_0 qmli9_40 rfl (ld_i l1) ?_
          refine tw_i qmli9_41 hJ el_208 rfl w_a208 ga_208 ⟨by omega, by omega⟩ (rg31 ⟨by omega, by omega⟩) (fun g9 hJ9 e9 => ?_)
          have u9_208 : fA g9 208 = updI (fA g 208) (fF g 23).toNat (i) := by rw [e9]; exact fA_pu2 ⟨by omega, by omega⟩
          have u9_209 : fA g9 209 = fA g 209 := by rw [e9]; exact fA_pn (by decide)
          have v9 : fF g9 23 = fF g 23 := by rw [e9]; rfl
          show t_X d 220 42 lv [] g9 P
          refine t_0 qmli9_42 rfl (ld_a l0) ?_
          refine t_0 qmli9_43 rfl (ar_14 hJ9.1) ?_
          refine t_0 qmli9_46 rfl (ld_a l0) ?_
          have r10 := gb_f hJ9.1 (y := 23) rfl rfl gf_23
          refine t_0 qmli9_47 rfl (pq_gf (y := 23) rfl) ?_
          refine t_0 qmli9_50 rfl (ld_i l2) ?_
          refine tw_i qmli9_51 hJ9 el_209 rfl w_a209 ga_209 ⟨by omega, by omega⟩ (rg31 ⟨by omega, by omega⟩) (fun g11 hJ11 e11 => ?_)
          have u11_209 : fA g11 209 = updI (fA g9 209) (fF g9 23).toNat (j) := by rw [e11]; exact fA_pu2 ⟨by omega, by omega⟩
          have u11_208 : fA g11 208 = fA g9 208 := by rw [e11]; exact fA_pn (by decide)
          have v11 : fF g11 23 = fF g9 23 := by rw [e11]; rfl
          show t_X d 220 52 lv [] g11 P
          refine t_0 qmli9_52 rfl (ld_a l0) ?_
          refine t_0 qmli9_53 rfl (ld_a l0) ?_
          have r12 := gb_f hJ11.1 (y := 23) rfl rfl gf_23
          refine t_0 qmli9_54 rfl (pq_gf (y := 23) rfl) ?_
          refine t_0 qmli9_57 rfl rfl ?_
          refine t_0 qmli9_58 rfl pq_add ?_
          refine tw_c qmli9_59 el_196 rfl hJ11 w_23 gf_23 (by decide) ⟨by omega, by omega⟩ (fun g13 hJ13 e13 => ?_)
          have v13 : fF g13 23 = (fF g11 23) + 1 := by rw [e13]; exact pc_at (by omega) (by omega)
          have u13_208 : fA g13 208 = fA g11 208 := by rw [e13]; rfl
          have u13_209 : fA g13 209 = fA g11 209 := by rw [e13]; rfl
          show t_X d 220 62 lv [] g13 P
          refine t_0 qmli9_62 rfl (ld_a l0) ?_
          have r14 := gb_f hJ13.1 (y := 23) rfl rfl gf_23
          refine t_0 qmli9_63 rfl (pq_gf (y := 23) rfl) ?_
          refine t_5 qmli9_66 rfl rfl ?_
          rw [show fF g13 23 = fF g 23 + 1 by omega]
          refine hA ⟨⟨m1, hm1, e1, c1⟩, ⟨m3, hm3, e3, c3⟩, by omega, by omega⟩ g13 hJ13 (by omega) ?_ ?_
          · simp only [u13_208, u11_208, u9_208, v9, v11]
          · simp only [u13_209, u11_209, u9_209, v9, v11]
        · show t_X d 220 30 lv [] g P
          refine t_0 qmli9_30 rfl rfl ?_
          refine t_5 qmli9_31 rfl rfl ?_
          exact hR (fun z => by have z1 := z.2.2.1; have z2 := z.2.2.2; omega)
    · show t_X d 220 13 lv [oI (0)] g P
      refine tz_eq qmli9_13 (by decide) ⟨by omega, by omega⟩ (fun c15 => ?_) (fun c15 => absurd c15 (by omega))
      show t_X d 220 30 lv [] g P
      refine t_0 qmli9_30 rfl rfl ?_
      refine t_5 qmli9_31 rfl rfl ?_
      exact hR (fun z => c3 z.2.1)
  · show t_X d 220 5 lv [oI (0)] g P
    refine tz_eq qmli9_5 (by decide) ⟨by omega, by omega⟩ (fun c16 => ?_) (fun c16 => absurd c16 (by omega))
    show t_X d 220 30 lv [] g P
    refine t_0 qmli9_30 rfl rfl ?_
    refine t_5 qmli9_31 rfl rfl ?_
    exact hR (fun z => c1 z.1)
theorem dwm_0 : True := trivial
set_option maxHeartbeats 4000000 in
theorem gl_cl {d W : Nat} {w0 h0 : pH} {i : Int} (hi : 0 ≤ i ∧ i ≤ 31) (w_a206 : W.testBit (cn 206) = true) (w_a207 : W.testBit (cn 207) = true) (w_22 : W.testBit (cn 196 + 22) = true) {P : Option pv × pH → Prop} (hP : ∀ (g1 : pH) (lv : List (Nat × pv)), J_ W w0 g1 → fF g1 22 = ((dw i (fA h0 206) (fA h0 207) (fF h0 22).toNat).1 : Int) → fA g1 206 = (dw i (fA h0 206) (fA h0 207) (fF h0 22).toNat).2.1 → fA g1 207 = (dw i (fA h0 206) (fA h0 207) (fF h0 22).toNat).2.2 → px_lg lv 0 = some (pvR 196) → px_lg lv 1 = some (oI i) → t_X d 194 105 lv [] g1 P) : ∀ (n m : Nat) (lv : List (Nat × pv)) (g : pH), (fF h0 22).toNat - m ≤ n → m ≤ (fF h0 22).toNat → J_ W w0 g → fF g 22 = fF h0 22 → fA g 206 = (dw i (fA h0 206) (fA h0 207) m).2.1 → fA g 207 = (dw i (fA h0 206) (fA h0 207) m).2.2 → px_lg lv 0 = some (pvR 196) → px_lg lv 1 = some (oI i) → px_lg lv 2 = some (oI ((dw i (fA h0 206) (fA h0 207) m).1 : Int)) → px_lg lv 3 = some (oI (m : Int)) → t_X d 194 35 lv [] g P := by
  intro n
  induction n with
  | zero =>
    intro m lv g hn hm hJ hz hA hB l0 l1 l2 l3
    have hc := gb_f hJ.1 (y := 22) rfl rfl gf_22
    have hle := dw_le (i := i) (A := fA h0 206) (B := fA h0 207) m
    have he : m = (fF h0 22).toNat := by omega
    refine t_0 qgcl9_35 rfl (ld_i l3) ?_
    refine t_0 qgcl9_36 rfl (ld_a l0) ?_
    have r1 := gb_f hJ.1 (y := 22) rfl rfl gf_22
    refine t_0 qgcl9_37 rfl (pq_gf (y := 22) rfl) ?_
    refine tb_ge qgcl9_40 (by decide) ⟨by omega, by omega⟩ ⟨by omega, by omega⟩ (fun c2 => ?_) (fun c2 => absurd c2 (by omega))
    show t_X d 194 100 lv [] g P
    refine t_0 qgcl9_100 rfl (ld_a l0) ?_
    refine t_0 qgcl9_101 rfl (ld_i l2) ?_
    refine tw_c qgcl9_102 el_196 rfl hJ w_22 gf_22 (by decide) ⟨by omega, by omega⟩ (fun g3 hJ3 e3 => ?_)
    have v3 : fF g3 22 = ((dw i (fA h0 206) (fA h0 207) m).1 : Int) := by rw [e3]; exact pc_at (by omega) (by omega)
    have u3_206 : fA g3 206 = fA g 206 := by rw [e3]; rfl
    have u3_207 : fA g3 207 = fA g 207 := by rw [e3]; rfl
    show t_X d 194 105 lv [] g3 P
    refine hP _ lv hJ3 ?_ ?_ ?_ l0 l1
    · rw [v3, he]
    · simp only [u3_206]; rw [hA, he]
    · simp only [u3_207]; rw [hB, he]
  | succ n ih =>
    intro m lv g hn hm hJ hz hA hB l0 l1 l2 l3
    have hc := gb_f hJ.1 (y := 22) rfl rfl gf_22
    have hle := dw_le (i := i) (A := fA h0 206) (B := fA h0 207) m
    by_cases hlt : m < (fF h0 22).toNat
    · skip
      refine t_0 qgcl9_35 rfl (ld_i l3) ?_
      refine t_0 qgcl9_36 rfl (ld_a l0) ?_
      have r1 := gb_f hJ.1 (y := 22) rfl rfl gf_22
      refine t_0 qgcl9_37 rfl (pq_gf (y := 22) rfl) ?_
      refine tb_ge qgcl9_40 (by decide) ⟨by omega, by omega⟩ ⟨by omega, by omega⟩ (fun c2 => absurd c2 (by omega)) (fun c2 => ?_)
      show t_X d 194 43 lv [] g P
      refine t_0 qgcl9_43 rfl (ld_a l0) ?_
      refine t_0 qgcl9_44 rfl (ar_11 hJ.1) ?_
      refine t_0 qgcl9_47 rfl (ld_i l3) ?_
      refine t_0 qgcl9_48 rfl (pq_ia el_206 rfl ⟨by omega, by omega⟩) ?_
      show t_X d 194 49 lv [oI (fA g 206 m)] g P
      have r3 := gb_a hJ.1 el_206 (j := m) (by omega) ga_206
      refine t_0 qgcl9_49 rfl (ld_i l1) ?_
      refine tb_eq qgcl9_50 (by decide) ⟨by omega, by omega⟩ ⟨by omega, by omega⟩ (fun c4 => ?_) (fun c4 => ?_)
      · show t_X d 194 94 lv [] g P
        refine t_2 qgcl9_94 rfl (w := (px_s1 lv 3 (oI ((m : Int) + 1)), [])) (pq_inc l3 (by decide)) ?_
        replace l0 : px_lg (px_s1 lv 3 (oI ((m : Int) + 1))) 0 = some (pvR 196) := s1_ne (by decide) (fun _ => rfl) l0
        replace l1 : px_lg (px_s1 lv 3 (oI ((m : Int) + 1))) 1 = some (oI (i)) := s1_ne (by decide) (fun _ => rfl) l1
        replace l2 : px_lg (px_s1 lv 3 (oI ((m : Int) + 1))) 2 = some (oI (((dw i (fA h0 206) (fA h0 207) m).1 : Int))) := s1_ne (by decide) (fun _ => rfl) l2
        have l3 : px_lg (px_s1 lv 3 (oI ((m : Int) + 1))) 3 = some (oI ((m : Int) + 1)) := s1_eq
        generalize px_s1 lv 3 (oI ((m : Int) + 1)) = lv5 at l0 l1 l2 l3 ⊢
        show t_X d 194 97 lv5 [] g P
        refine t_1 qgcl9_97 rfl (pb_goto (pc := 97) (by decide)) ?_
        show t_X d 194 35 lv5 [] g P
        have hd := dw_f (i := i) (A := fA h0 206) (B := fA h0 207) (k := m) (by rw [← hA, ← hB]; omega)
        exact ih (m + 1) _ g (by omega) (by omega) hJ (by omega) (by rw [hd]; exact hA) (by rw [hd]; exact hB) l0 l1 (by rw [l2, hd]) l3
      · show t_X d 194 53 lv [] g P
        refine t_0 qgcl9_53 rfl (ld_a l0) ?_
        refine t_0 qgcl9_54 rfl (ar_12 hJ.1) ?_
        refine t_0 qgcl9_57 rfl (ld_i l3) ?_
        refine t_0 qgcl9_58 rfl (pq_ia el_207 rfl ⟨by omega, by omega⟩) ?_
        show t_X d 194 59 lv [oI (fA g 207 m)] g P
        have r6 := gb_a hJ.1 el_207 (j := m) (by omega) ga_207
        refine t_0 qgcl9_59 rfl (ld_i l1) ?_
        refine tb_ne qgcl9_60 (by decide) ⟨by omega, by omega⟩ ⟨by omega, by omega⟩ (fun c7 => ?_) (fun c7 => ?_)
        · show t_X d 194 66 lv [] g P
          refine t_0 qgcl9_66 rfl (ld_a l0) ?_
          refine t_0 qgcl9_67 rfl (ar_11 hJ.1) ?_
          refine t_0 qgcl9_70 rfl (ld_i l2) ?_
          refine t_0 qgcl9_71 rfl (ld_a l0) ?_
          refine t_0 qgcl9_72 rfl (ar_11 hJ.1) ?_
          refine t_0 qgcl9_75 rfl (ld_i l3) ?_
          refine t_0 qgcl9_76 rfl (pq_ia el_206 rfl ⟨by omega, by omega⟩) ?_
          show t_X d 194 77 lv [oI (fA g 206 m), oI (((dw i (fA h0 206) (fA h0 207) m).1 : Int)), pvR 206] g P
          have r8 := gb_a hJ.1 el_206 (j := m) (by omega) ga_206
          refine tw_i qgcl9_77 hJ el_206 rfl w_a206 ga_206 ⟨by omega, by omega⟩ (rg31 ⟨by omega, by omega⟩) (fun g9 hJ9 e9 => ?_)
          have u9_206 : fA g9 206 = updI (fA g 206) (((dw i (fA h0 206) (fA h0 207) m).1 : Int)).toNat (fA g 206 m) := by rw [e9]; exact fA_pu2 ⟨by omega, by omega⟩
          have u9_207 : fA g9 207 = fA g 207 := by rw [e9]; exact fA_pn (by decide)
          have v9 : fF g9 22 = fF g 22 := by rw [e9]; rfl
          show t_X d 194 78 lv [] g9 P
          refine t_0 qgcl9_78 rfl (ld_a l0) ?_
          refine t_0 qgcl9_79 rfl (ar_12 hJ9.1) ?_
          refine t_0 qgcl9_82 rfl (ld_i l2) ?_
          refine t_0 qgcl9_83 rfl (ld_a l0) ?_
          refine t_0 qgcl9_84 rfl (ar_12 hJ9.1) ?_
          refine t_0 qgcl9_87 rfl (ld_i l3) ?_
          refine t_0 qgcl9_88 rfl (pq_ia el_207 rfl ⟨by omega, by omega⟩) ?_
          show t_X d 194 89 lv [oI (fA g9 207 m), oI (((dw i (fA h0 206) (fA h0 207) m).1 : Int)), pvR 207] g9 P
          have r10 := gb_a hJ9.1 el_207 (j := m) (by omega) ga_207
          refine tw_i qgcl9_89 hJ9 el_207 rfl w_a207 ga_207 ⟨by omega, by omega⟩ (rg31 ⟨by omega, by omega⟩) (fun g11 hJ11 e11 => ?_)
          have u11_207 : fA g11 207 = updI (fA g9 207) (((dw i (fA h0 206) (fA h0 207) m).1 : Int)).toNat (fA g9 207 m) := by rw [e11]; exact fA_pu2 ⟨by omega, by omega⟩
          have u11_206 : fA g11 206 = fA g9 206 := by rw [e11]; exact fA_pn (by decide)
          have v11 : fF g11 22 = fF g9 22 := by rw [e11]; rfl
          show t_X d 194 90 lv [] g11 P
          refine t_0 qgcl9_90 rfl (ld_i l2) ?_
          refine t_0 qgcl9_91 rfl rfl ?_
          refine t_0 qgcl9_92 rfl pq_add ?_
          refine t_2 qgcl9_93 rfl (w := (px_s1 lv 2 (oI (((dw i (fA h0 206) (fA h0 207) m).1 : Int) + 1)), [])) rfl ?_
          replace l0 : px_lg (px_s1 lv 2 (oI (((dw i (fA h0 206) (fA h0 207) m).1 : Int) + 1))) 0 = some (pvR 196) := s1_ne (by decide) (fun _ => rfl) l0
          replace l1 : px_lg (px_s1 lv 2 (oI (((dw i (fA h0 206) (fA h0 207) m).1 : Int) + 1))) 1 = some (oI (i)) := s1_ne (by decide) (fun _ => rfl) l1
          replace l3 : px_lg (px_s1 lv 2 (oI (((dw i (fA h0 206) (fA h0 207) m).1 : Int) + 1))) 3 = some (oI ((m : Int))) := s1_ne (by decide) (fun _ => rfl) l3
          have l2 : px_lg (px_s1 lv 2 (oI (((dw i (fA h0 206) (fA h0 207) m).1 : Int) + 1))) 2 = some (oI (((dw i (fA h0 206) (fA h0 207) m).1 : Int) + 1)) := s1_eq
          generalize px_s1 lv 2 (oI (((dw i (fA h0 206) (fA h0 207) m).1 : Int) + 1)) = lv12 at l0 l1 l3 l2 ⊢
          show t_X d 194 94 lv12 [] g11 P
          refine t_2 qgcl9_94 rfl (w := (px_s1 lv12 3 (oI ((m : Int) + 1)), [])) (pq_inc l3 (by decide)) ?_
          replace l0 : px_lg (px_s1 lv12 3 (oI ((m : Int) + 1))) 0 = some (pvR 196) := s1_ne (by decide) (fun _ => rfl) l0
          replace l1 : px_lg (px_s1 lv12 3 (oI ((m : Int) + 1))) 1 = some (oI (i)) := s1_ne (by decide) (fun _ => rfl) l1
          replace l2 : px_lg (px_s1 lv12 3 (oI ((m : Int) + 1))) 2 = some (oI (((dw i (fA h0 206) (fA h0 207) m).1 : Int) + 1)) := s1_ne (by decide) (fun _ => rfl) l2
          have l3 : px_lg (px_s1 lv12 3 (oI ((m : Int) + 1))) 3 = some (oI ((m : Int) + 1)) := s1_eq
          generalize px_s1 lv12 3 (oI ((m : Int) + 1)) = lv13 at l0 l1 l2 l3 ⊢
          show t_X d 194 97 lv13 [] g11 P
          refine t_1 qgcl9_97 rfl (pb_goto (pc := 97) (by decide)) ?_
          show t_X d 194 35 lv13 [] g11 P
          have hd := dw_t (i := i) (A := fA h0 206) (B := fA h0 207) (k := m) (by rw [← hA]; omega) (by rw [← hB]; omega)
          refine ih (m + 1) _ g11 (by omega) (by omega) hJ11 (by omega) ?_ ?_ l0 l1 (by rw [l2, hd]; rfl) l3
          · simp only [u11_206, u9_206]; rw [hd, hA]; rfl
          · simp only [u11_207, u9_207]; rw [hd, hB]; rfl
        · show t_X d 194 63 lv [] g P
          refine t_1 qgcl9_63 rfl (pb_goto (pc := 63) (by decide)) ?_
          show t_X d 194 94 lv [] g P
          refine t_2 qgcl9_94 rfl (w := (px_s1 lv 3 (oI ((m : Int) + 1)), [])) (pq_inc l3 (by decide)) ?_
          replace l0 : px_lg (px_s1 lv 3 (oI ((m : Int) + 1))) 0 = some (pvR 196) := s1_ne (by decide) (fun _ => rfl) l0
          replace l1 : px_lg (px_s1 lv 3 (oI ((m : Int) + 1))) 1 = some (oI (i)) := s1_ne (by decide) (fun _ => rfl) l1
          replace l2 : px_lg (px_s1 lv 3 (oI ((m : Int) + 1))) 2 = some (oI (((dw i (fA h0 206) (fA h0 207) m).1 : Int))) := s1_ne (by decide) (fun _ => rfl) l2
          have l3 : px_lg (px_s1 lv 3 (oI ((m : Int) + 1))) 3 = some (oI ((m : Int) + 1)) := s1_eq
          generalize px_s1 lv 3 (oI ((m : Int) + 1)) = lv14 at l0 l1 l2 l3 ⊢
          show t_X d 194 97 lv14 [] g P
          refine t_1 qgcl9_97 rfl (pb_goto (pc := 97) (by decide)) ?_
          show t_X d 194 35 lv14 [] g P
          have hd := dw_f (i := i) (A := fA h0 206) (B := fA h0 207) (k := m) (by rw [← hA, ← hB]; omega)
          exact ih (m + 1) _ g (by omega) (by omega) hJ (by omega) (by rw [hd]; exact hA) (by rw [hd]; exact hB) l0 l1 (by rw [l2, hd]) l3
    · have he : m = (fF h0 22).toNat := by omega
      refine t_0 qgcl9_35 rfl (ld_i l3) ?_
      refine t_0 qgcl9_36 rfl (ld_a l0) ?_
      have r1 := gb_f hJ.1 (y := 22) rfl rfl gf_22
      refine t_0 qgcl9_37 rfl (pq_gf (y := 22) rfl) ?_
      refine tb_ge qgcl9_40 (by decide) ⟨by omega, by omega⟩ ⟨by omega, by omega⟩ (fun c2 => ?_) (fun c2 => absurd c2 (by omega))
      show t_X d 194 100 lv [] g P
      refine t_0 qgcl9_100 rfl (ld_a l0) ?_
      refine t_0 qgcl9_101 rfl (ld_i l2) ?_
      refine tw_c qgcl9_102 el_196 rfl hJ w_22 gf_22 (by decide) ⟨by omega, by omega⟩ (fun g3 hJ3 e3 => ?_)
      have v3 : fF g3 22 = ((dw i (fA h0 206) (fA h0 207) m).1 : Int) := by rw [e3]; exact pc_at (by omega) (by omega)
      have u3_206 : fA g3 206 = fA g 206 := by rw [e3]; rfl
      have u3_207 : fA g3 207 = fA g 207 := by rw [e3]; rfl
      show t_X d 194 105 lv [] g3 P
      refine hP _ lv hJ3 ?_ ?_ ?_ l0 l1
      · rw [v3, he]
      · simp only [u3_206]; rw [hA, he]
      · simp only [u3_207]; rw [hB, he]
set_option maxHeartbeats 4000000 in
theorem gl_li {d W : Nat} {w0 h0 : pH} {i : Int} (hi : 0 ≤ i ∧ i ≤ 31) (w_a208 : W.testBit (cn 208) = true) (w_a209 : W.testBit (cn 209) = true) (w_23 : W.testBit (cn 196 + 23) = true) {P : Option pv × pH → Prop} (hP : ∀ (g1 : pH) (lv : List (Nat × pv)), J_ W w0 g1 → fF g1 23 = ((dw i (fA h0 208) (fA h0 209) (fF h0 23).toNat).1 : Int) → fA g1 208 = (dw i (fA h0 208) (fA h0 209) (fF h0 23).toNat).2.1 → fA g1 209 = (dw i (fA h0 208) (fA h0 209) (fF h0 23).toNat).2.2 → px_lg lv 0 = some (pvR 196) → px_lg lv 1 = some (oI i) → t_X d 194 179 lv [] g1 P) : ∀ (n m : Nat) (lv : List (Nat × pv)) (g : pH), (fF h0 23).toNat - m ≤ n → m ≤ (fF h0 23).toNat → J_ W w0 g → fF g 23 = fF h0 23 → fA g 208 = (dw i (fA h0 208) (fA h0 209) m).2.1 → fA g 209 = (dw i (fA h0 208) (fA h0 209) m).2.2 → px_lg lv 0 = some (pvR 196) → px_lg lv 1 = some (oI i) → px_lg lv 2 = some (oI ((dw i (fA h0 208) (fA h0 209) m).1 : Int)) → px_lg lv 3 = some (oI (m : Int)) → t_X d 194 109 lv [] g P := by
  intro n
  induction n with
  | zero =>
    intro m lv g hn hm hJ hz hA hB l0 l1 l2 l3
    have hc := gb_f hJ.1 (y := 23) rfl rfl gf_23
    have hle := dw_le (i := i) (A := fA h0 208) (B := fA h0 209) m
    have he : m = (fF h0 23).toNat := by omega
    refine t_0 qgli9_109 rfl (ld_i l3) ?_
    refine t_0 qgli9_110 rfl (ld_a l0) ?_
    have r1 := gb_f hJ.1 (y := 23) rfl rfl gf_23
    refine t_0 qgli9_111 rfl (pq_gf (y := 23) rfl) ?_
    refine tb_ge qgli9_114 (by decide) ⟨by omega, by omega⟩ ⟨by omega, by omega⟩ (fun c2 => ?_) (fun c2 => absurd c2 (by omega))
    show t_X d 194 174 lv [] g P
    refine t_0 qgli9_174 rfl (ld_a l0) ?_
    refine t_0 qgli9_175 rfl (ld_i l2) ?_
    refine tw_c qgli9_176 el_196 rfl hJ w_23 gf_23 (by decide) ⟨by omega, by omega⟩ (fun g3 hJ3 e3 => ?_)
    have v3 : fF g3 23 = ((dw i (fA h0 208) (fA h0 209) m).1 : Int) := by rw [e3]; exact pc_at (by omega) (by omega)
    have u3_208 : fA g3 208 = fA g 208 := by rw [e3]; rfl
    have u3_209 : fA g3 209 = fA g 209 := by rw [e3]; rfl
    show t_X d 194 179 lv [] g3 P
    refine hP _ lv hJ3 ?_ ?_ ?_ l0 l1
    · rw [v3, he]
    · simp only [u3_208]; rw [hA, he]
    · simp only [u3_209]; rw [hB, he]
  | succ n ih =>
    intro m lv g hn hm hJ hz hA hB l0 l1 l2 l3
    have hc := gb_f hJ.1 (y := 23) rfl rfl gf_23
    have hle := dw_le (i := i) (A := fA h0 208) (B := fA h0 209) m
    by_cases hlt : m < (fF h0 23).toNat
    · skip
      refine t_0 qgli9_109 rfl (ld_i l3) ?_
      refine t_0 qgli9_110 rfl (ld_a l0) ?_
      have r1 := gb_f hJ.1 (y := 23) rfl rfl gf_23
      refine t_0 qgli9_111 rfl (pq_gf (y := 23) rfl) ?_
      refine tb_ge qgli9_114 (by decide) ⟨by omega, by omega⟩ ⟨by omega, by omega⟩ (fun c2 => absurd c2 (by omega)) (fun c2 => ?_)
      show t_X d 194 117 lv [] g P
      refine t_0 qgli9_117 rfl (ld_a l0) ?_
      refine t_0 qgli9_118 rfl (ar_13 hJ.1) ?_
      refine t_0 qgli9_121 rfl (ld_i l3) ?_
      refine t_0 qgli9_122 rfl (pq_ia el_208 rfl ⟨by omega, by omega⟩) ?_
      show t_X d 194 123 lv [oI (fA g 208 m)] g P
      have r3 := gb_a hJ.1 el_208 (j := m) (by omega) ga_208
      refine t_0 qgli9_123 rfl (ld_i l1) ?_
      refine tb_eq qgli9_124 (by decide) ⟨by omega, by omega⟩ ⟨by omega, by omega⟩ (fun c4 => ?_) (fun c4 => ?_)
      · show t_X d 194 168 lv [] g P
        refine t_2 qgli9_168 rfl (w := (px_s1 lv 3 (oI ((m : Int) + 1)), [])) (pq_inc l3 (by decide)) ?_
        replace l0 : px_lg (px_s1 lv 3 (oI ((m : Int) + 1))) 0 = some (pvR 196) := s1_ne (by decide) (fun _ => rfl) l0
        replace l1 : px_lg (px_s1 lv 3 (oI ((m : Int) + 1))) 1 = some (oI (i)) := s1_ne (by decide) (fun _ => rfl) l1
        replace l2 : px_lg (px_s1 lv 3 (oI ((m : Int) + 1))) 2 = some (oI (((dw i (fA h0 208) (fA h0 209) m).1 : Int))) := s1_ne (by decide) (fun _ => rfl) l2
        have l3 : px_lg (px_s1 lv 3 (oI ((m : Int) + 1))) 3 = some (oI ((m : Int) + 1)) := s1_eq
        generalize px_s1 lv 3 (oI ((m : Int) + 1)) = lv5 at l0 l1 l2 l3 ⊢
        show t_X d 194 171 lv5 [] g P
        refine t_1 qgli9_171 rfl (pb_goto (pc := 171) (by decide)) ?_
        show t_X d 194 109 lv5 [] g P
        have hd := dw_f (i := i) (A := fA h0 208) (B := fA h0 209) (k := m) (by rw [← hA, ← hB]; omega)
        exact ih (m + 1) _ g (by omega) (by omega) hJ (by omega) (by rw [hd]; exact hA) (by rw [hd]; exact hB) l0 l1 (by rw [l2, hd]) l3
      · show t_X d 194 127 lv [] g P
        refine t_0 qgli9_127 rfl (ld_a l0) ?_
        refine t_0 qgli9_128 rfl (ar_14 hJ.1) ?_
        refine t_0 qgli9_131 rfl (ld_i l3) ?_
        refine t_0 qgli9_132 rfl (pq_ia el_209 rfl ⟨by omega, by omega⟩) ?_
        show t_X d 194 133 lv [oI (fA g 209 m)] g P
        have r6 := gb_a hJ.1 el_209 (j := m) (by omega) ga_209
        refine t_0 qgli9_133 rfl (ld_i l1) ?_
        refine tb_ne qgli9_134 (by decide) ⟨by omega, by omega⟩ ⟨by omega, by omega⟩ (fun c7 => ?_) (fun c7 => ?_)
        · show t_X d 194 140 lv [] g P
          refine t_0 qgli9_140 rfl (ld_a l0) ?_
          refine t_0 qgli9_141 rfl (ar_13 hJ.1) ?_
          refine t_0 qgli9_144 rfl (ld_i l2) ?_
          refine t_0 qgli9_145 rfl (ld_a l0) ?_
          refine t_0 qgli9_146 rfl (ar_13 hJ.1) ?_
          refine t_0 qgli9_149 rfl (ld_i l3) ?_
          refine t_0 qgli9_150 rfl (pq_ia el_208 rfl ⟨by omega, by omega⟩) ?_
          show t_X d 194 151 lv [oI (fA g 208 m), oI (((dw i (fA h0 208) (fA h0 209) m).1 : Int)), pvR 208] g P
          have r8 := gb_a hJ.1 el_208 (j := m) (by omega) ga_208
          refine tw_i qgli9_151 hJ el_208 rfl w_a208 ga_208 ⟨by omega, by omega⟩ (rg31 ⟨by omega, by omega⟩) (fun g9 hJ9 e9 => ?_)
          have u9_208 : fA g9 208 = updI (fA g 208) (((dw i (fA h0 208) (fA h0 209) m).1 : Int)).toNat (fA g 208 m) := by rw [e9]; exact fA_pu2 ⟨by omega, by omega⟩
          have u9_209 : fA g9 209 = fA g 209 := by rw [e9]; exact fA_pn (by decide)
          have v9 : fF g9 23 = fF g 23 := by rw [e9]; rfl
          show t_X d 194 152 lv [] g9 P
          refine t_0 qgli9_152 rfl (ld_a l0) ?_
          refine t_0 qgli9_153 rfl (ar_14 hJ9.1) ?_
          refine t_0 qgli9_156 rfl (ld_i l2) ?_
          refine t_0 qgli9_157 rfl (ld_a l0) ?_
          refine t_0 qgli9_158 rfl (ar_14 hJ9.1) ?_
          refine t_0 qgli9_161 rfl (ld_i l3) ?_
          refine t_0 qgli9_162 rfl (pq_ia el_209 rfl ⟨by omega, by omega⟩) ?_
          show t_X d 194 163 lv [oI (fA g9 209 m), oI (((dw i (fA h0 208) (fA h0 209) m).1 : Int)), pvR 209] g9 P
          have r10 := gb_a hJ9.1 el_209 (j := m) (by omega) ga_209
          refine tw_i qgli9_163 hJ9 el_209 rfl w_a209 ga_209 ⟨by omega, by omega⟩ (rg31 ⟨by omega, by omega⟩) (fun g11 hJ11 e11 => ?_)
          have u11_209 : fA g11 209 = updI (fA g9 209) (((dw i (fA h0 208) (fA h0 209) m).1 : Int)).toNat (fA g9 209 m) := by rw [e11]; exact fA_pu2 ⟨by omega, by omega⟩
          have u11_208 : fA g11 208 = fA g9 208 := by rw [e11]; exact fA_pn (by decide)
          have v11 : fF g11 23 = fF g9 23 := by rw [e11]; rfl
          show t_X d 194 164 lv [] g11 P
          refine t_0 qgli9_164 rfl (ld_i l2) ?_
          refine t_0 qgli9_165 rfl rfl ?_
          refine t_0 qgli9_166 rfl pq_add ?_
          refine t_2 qgli9_167 rfl (w := (px_s1 lv 2 (oI (((dw i (fA h0 208) (fA h0 209) m).1 : Int) + 1)), [])) rfl ?_
          replace l0 : px_lg (px_s1 lv 2 (oI (((dw i (fA h0 208) (fA h0 209) m).1 : Int) + 1))) 0 = some (pvR 196) := s1_ne (by decide) (fun _ => rfl) l0
          replace l1 : px_lg (px_s1 lv 2 (oI (((dw i (fA h0 208) (fA h0 209) m).1 : Int) + 1))) 1 = some (oI (i)) := s1_ne (by decide) (fun _ => rfl) l1
          replace l3 : px_lg (px_s1 lv 2 (oI (((dw i (fA h0 208) (fA h0 209) m).1 : Int) + 1))) 3 = some (oI ((m : Int))) := s1_ne (by decide) (fun _ => rfl) l3
          have l2 : px_lg (px_s1 lv 2 (oI (((dw i (fA h0 208) (fA h0 209) m).1 : Int) + 1))) 2 = some (oI (((dw i (fA h0 208) (fA h0 209) m).1 : Int) + 1)) := s1_eq
          generalize px_s1 lv 2 (oI (((dw i (fA h0 208) (fA h0 209) m).1 : Int) + 1)) = lv12 at l0 l1 l3 l2 ⊢
          show t_X d 194 168 lv12 [] g11 P
          refine t_2 qgli9_168 rfl (w := (px_s1 lv12 3 (oI ((m : Int) + 1)), [])) (pq_inc l3 (by decide)) ?_
          replace l0 : px_lg (px_s1 lv12 3 (oI ((m : Int) + 1))) 0 = some (pvR 196) := s1_ne (by decide) (fun _ => rfl) l0
          replace l1 : px_lg (px_s1 lv12 3 (oI ((m : Int) + 1))) 1 = some (oI (i)) := s1_ne (by decide) (fun _ => rfl) l1
          replace l2 : px_lg (px_s1 lv12 3 (oI ((m : Int) + 1))) 2 = some (oI (((dw i (fA h0 208) (fA h0 209) m).1 : Int) + 1)) := s1_ne (by decide) (fun _ => rfl) l2
          have l3 : px_lg (px_s1 lv12 3 (oI ((m : Int) + 1))) 3 = some (oI ((m : Int) + 1)) := s1_eq
          generalize px_s1 lv12 3 (oI ((m : Int) + 1)) = lv13 at l0 l1 l2 l3 ⊢
          show t_X d 194 171 lv13 [] g11 P
          refine t_1 qgli9_171 rfl (pb_goto (pc := 171) (by decide)) ?_
          show t_X d 194 109 lv13 [] g11 P
          have hd := dw_t (i := i) (A := fA h0 208) (B := fA h0 209) (k := m) (by rw [← hA]; omega) (by rw [← hB]; omega)
          refine ih (m + 1) _ g11 (by omega) (by omega) hJ11 (by omega) ?_ ?_ l0 l1 (by rw [l2, hd]; rfl) l3
          · simp only [u11_208, u9_208]; rw [hd, hA]; rfl
          · simp only [u11_209, u9_209]; rw [hd, hB]; rfl
        · show t_X d 194 137 lv [] g P
          refine t_1 qgli9_137 rfl (pb_goto (pc := 137) (by decide)) ?_
          show t_X d 194 168 lv [] g P
          refine t_2 qgli9_168 rfl (w := (px_s1 lv 3 (oI ((m : Int) + 1)), [])) (pq_inc l3 (by decide)) ?_
          replace l0 : px_lg (px_s1 lv 3 (oI ((m : Int) + 1))) 0 = some (pvR 196) := s1_ne (by decide) (fun _ => rfl) l0
          replace l1 : px_lg (px_s1 lv 3 (oI ((m : Int) + 1))) 1 = some (oI (i)) := s1_ne (by decide) (fun _ => rfl) l1
          replace l2 : px_lg (px_s1 lv 3 (oI ((m : Int) + 1))) 2 = some (oI (((dw i (fA h0 208) (fA h0 209) m).1 : Int))) := s1_ne (by decide) (fun _ => rfl) l2
          have l3 : px_lg (px_s1 lv 3 (oI ((m : Int) + 1))) 3 = some (oI ((m : Int) + 1)) := s1_eq
          generalize px_s1 lv 3 (oI ((m : Int) + 1)) = lv14 at l0 l1 l2 l3 ⊢
          show t_X d 194 171 lv14 [] g P
          refine t_1 qgli9_171 rfl (pb_goto (pc := 171) (by decide)) ?_
          show t_X d 194 109 lv14 [] g P
          have hd := dw_f (i := i) (A := fA h0 208) (B := fA h0 209) (k := m) (by rw [← hA, ← hB]; omega)
          exact ih (m + 1) _ g (by omega) (by omega) hJ (by omega) (by rw [hd]; exact hA) (by rw [hd]; exact hB) l0 l1 (by rw [l2, hd]) l3
    · have he : m = (fF h0 23).toNat := by omega
      refine t_0 qgli9_109 rfl (ld_i l3) ?_
      refine t_0 qgli9_110 rfl (ld_a l0) ?_
      have r1 := gb_f hJ.1 (y := 23) rfl rfl gf_23
      refine t_0 qgli9_111 rfl (pq_gf (y := 23) rfl) ?_
      refine tb_ge qgli9_114 (by decide) ⟨by omega, by omega⟩ ⟨by omega, by omega⟩ (fun c2 => ?_) (fun c2 => absurd c2 (by omega))
      show t_X d 194 174 lv [] g P
      refine t_0 qgli9_174 rfl (ld_a l0) ?_
      refine t_0 qgli9_175 rfl (ld_i l2) ?_
      refine tw_c qgli9_176 el_196 rfl hJ w_23 gf_23 (by decide) ⟨by omega, by omega⟩ (fun g3 hJ3 e3 => ?_)
      have v3 : fF g3 23 = ((dw i (fA h0 208) (fA h0 209) m).1 : Int) := by rw [e3]; exact pc_at (by omega) (by omega)
      have u3_208 : fA g3 208 = fA g 208 := by rw [e3]; rfl
      have u3_209 : fA g3 209 = fA g 209 := by rw [e3]; rfl
      show t_X d 194 179 lv [] g3 P
      refine hP _ lv hJ3 ?_ ?_ ?_ l0 l1
      · rw [v3, he]
      · simp only [u3_208]; rw [hA, he]
      · simp only [u3_209]; rw [hB, he]
theorem gc_205 : eG (cn 205) = (-1, 3, []) := by decide +kernel
def Wgcl : Nat := 2 ^ (cn 196 + 22) + 2 ^ cn 206 + 2 ^ cn 207
def Wgli : Nat := 2 ^ (cn 196 + 23) + 2 ^ cn 208 + 2 ^ cn 209
theorem Wgcl_1 : Wgcl.testBit (cn 206) = true ∧ Wgcl.testBit (cn 207) = true ∧ Wgcl.testBit (cn 196 + 22) = true ∧ Wgcl &&& kk_9.2.2.2.1 = Wgcl ∧ Wgcl.testBit (cn 208) = false ∧ Wgcl.testBit (cn 209) = false ∧ Wgcl.testBit (cn 196 + 23) = false := by decide +kernel
theorem Wgli_1 : Wgli.testBit (cn 208) = true ∧ Wgli.testBit (cn 209) = true ∧ Wgli.testBit (cn 196 + 23) = true ∧ Wgli &&& kk_9.2.2.2.1 = Wgli ∧ Wgli.testBit (cn 206) = false ∧ Wgli.testBit (cn 207) = false ∧ Wgli.testBit (cn 196 + 22) = false := by decide +kernel
def dwQ (i : Int) (y A B : Nat) (g g1 : pH) : Prop := fF g1 y = ((dw i (fA g A) (fA g B) (fF g y).toNat).1 : Int) ∧ fA g1 A = (dw i (fA g A) (fA g B) (fF g y).toNat).2.1 ∧ fA g1 B = (dw i (fA g A) (fA g B) (fF g y).toNat).2.2
theorem dwQ_e {i : Int} {y A B : Nat} {g g0 g1 g2 : pH} (h : dwQ i y A B g0 g1) (h1 : fF g0 y = fF g y) (h2 : fA g0 A = fA g A) (h3 : fA g0 B = fA g B) (h4 : fF g2 y = fF g1 y) (h5 : fA g2 A = fA g1 A) (h6 : fA g2 B = fA g1 B) : dwQ i y A B g g2 := by
  unfold dwQ at h ⊢
  rw [h4, h5, h6, ← h1, ← h2, ← h3]
  exact h
set_option maxHeartbeats 4000000 in
theorem mg9_run {d : Nat} (hd : 4 ≤ d) {g : pH} (hG : g_I eG g) {i : Int} (hi : -2147483648 ≤ i ∧ i ≤ 2147483647) {P : Option pv × pH → Prop} (hA : toM g i → ∀ g1 : pH, J_ kk_9.2.2.2.1 g g1 → dwQ i 22 206 207 g g1 → dwQ i 23 208 209 g g1 → P (some (oI 1), g1)) (hR : ¬ toM g i → P (some (oI 0), g)) {lv : List (Nat × pv)} (l0 : px_lg lv 0 = some (pvR 196)) (l1 : px_lg lv 1 = some (oI i)) : t_X d 194 0 lv [] g P := by
  have hJ : J_ kk_9.2.2.2.1 g g := J_rf hG
  have W205 : kk_9.2.2.2.1.testBit (cn 205) = true := by decide +kernel
  refine t_0 qxm_0 rfl (ld_a l0) ?_
  refine t_0 qxm_1 rfl (ld_i l1) ?_
  refine t_3 qxm_2 rfl (ar := ([pvR 196, oI (i)], [])) (pcal_v1 rfl rfl el_196) ⟨by omega, Nat.le_of_ble_eq_true rfl, Nat.le_of_ble_eq_true rfl, rfl⟩ ?_
  refine it_run (by omega) (by omega) rfl rfl (fun m hm e1 c0 => ?_) (fun c0 => ?_)
  · subst e1
    show t_X d 194 5 lv [oI (1)] g P
    refine tz_ne qxm_5 (by decide) ⟨by omega, by omega⟩ (fun c1 => ?_) (fun c1 => absurd c1 (by omega))
    show t_X d 194 10 lv [] g P
    refine t_0 qxm_10 rfl (ld_a l0) ?_
    refine t_0 qxm_11 rfl (ld_a l0) ?_
    have r2 := fF_b g 0
    refine t_0 qxm_12 rfl (pq_gf (y := 0) rfl) ?_
    refine t_0 qxm_15 rfl rfl ?_
    refine t_0 qxm_16 rfl (ld_i l1) ?_
    refine t_0 qxm_17 rfl rfl ?_
    refine t_0 qxm_18 rfl rfl ?_
    refine t_0 qxm_19 rfl rfl ?_
    refine t_0 qxm_20 rfl rfl ?_
    refine tw_v qxm_21 el_196 rfl hJ Wmgn.1 gF_0 (fun g3 hJ3 e3 => ?_)
    have u3_206 : fA g3 206 = fA g 206 := by rw [e3]; rfl
    have u3_207 : fA g3 207 = fA g 207 := by rw [e3]; rfl
    have u3_208 : fA g3 208 = fA g 208 := by rw [e3]; rfl
    have u3_209 : fA g3 209 = fA g 209 := by rw [e3]; rfl
    have v3_22 : fF g3 22 = fF g 22 := by rw [e3]; exact congrArg Int32.toInt (pr_ne (by decide))
    have v3_23 : fF g3 23 = fF g 23 := by rw [e3]; exact congrArg Int32.toInt (pr_ne (by decide))
    show t_X d 194 24 lv [] g3 P
    refine t_0 qxm_24 rfl (ld_a l0) ?_
    refine t_0 qxm_25 rfl (ar_10 hJ3.1) ?_
    refine t_0 qxm_28 rfl (ld_i l1) ?_
    refine t_0 qxm_29 rfl rfl ?_
    refine tw_i qxm_30 hJ3 el_205 rfl W205 gc_205 ⟨by omega, by omega⟩ (by decide) (fun g4 hJ4 e4 => ?_)
    have u4_206 : fA g4 206 = fA g3 206 := by rw [e4]; exact fA_pn (by decide)
    have u4_207 : fA g4 207 = fA g3 207 := by rw [e4]; exact fA_pn (by decide)
    have u4_208 : fA g4 208 = fA g3 208 := by rw [e4]; exact fA_pn (by decide)
    have u4_209 : fA g4 209 = fA g3 209 := by rw [e4]; exact fA_pn (by decide)
    have v4_22 : fF g4 22 = fF g3 22 := by rw [e4]; rfl
    have v4_23 : fF g4 23 = fF g3 23 := by rw [e4]; rfl
    show t_X d 194 31 lv [] g4 P
    refine t_0 qxm_31 rfl rfl ?_
    refine t_2 qxm_32 rfl (w := (px_s1 lv 2 (oI (0)), [])) rfl ?_
    replace l0 : px_lg (px_s1 lv 2 (oI (0))) 0 = some (pvR 196) := s1_ne (by decide) (fun _ => rfl) l0
    replace l1 : px_lg (px_s1 lv 2 (oI (0))) 1 = some (oI ((m : Int))) := s1_ne (by decide) (fun _ => rfl) l1
    have l2 : px_lg (px_s1 lv 2 (oI (0))) 2 = some (oI (0)) := s1_eq
    generalize px_s1 lv 2 (oI (0)) = lv5 at l0 l1 l2 ⊢
    show t_X d 194 33 lv5 [] g4 P
    refine t_0 qxm_33 rfl rfl ?_
    refine t_2 qxm_34 rfl (w := (px_s1 lv5 3 (oI (0)), [])) rfl ?_
    replace l0 : px_lg (px_s1 lv5 3 (oI (0))) 0 = some (pvR 196) := s1_ne (by decide) (fun _ => rfl) l0
    replace l1 : px_lg (px_s1 lv5 3 (oI (0))) 1 = some (oI ((m : Int))) := s1_ne (by decide) (fun _ => rfl) l1
    replace l2 : px_lg (px_s1 lv5 3 (oI (0))) 2 = some (oI (0)) := s1_ne (by decide) (fun _ => rfl) l2
    have l3 : px_lg (px_s1 lv5 3 (oI (0))) 3 = some (oI (0)) := s1_eq
    generalize px_s1 lv5 3 (oI (0)) = lv6 at l0 l1 l2 l3 ⊢
    show t_X d 194 35 lv6 [] g4 P
    refine gl_cl (W := Wgcl) (w0 := g4) (h0 := g4) (by omega) Wgcl_1.1 Wgcl_1.2.1 Wgcl_1.2.2.1 (fun gA lvA JA zA aA bA k0 k1 => ?_) 24 0 _ _ (by have := gb_f hJ4.1 (y := 22) rfl rfl gf_22; omega) (by omega) (J_rf hJ4.1) rfl rfl rfl l0 l1 l2 l3
    have hJA := J_up Wgcl_1.2.2.2.1 hJ4 JA
    have D1 : dwQ (m : Int) 22 206 207 g4 gA := ⟨zA, aA, bA⟩
    clear l0 l1 l2 l3
    show t_X d 194 105 lvA [] gA P
    refine t_0 qxm_105 rfl rfl ?_
    refine t_2 qxm_106 rfl (w := (px_s1 lvA 2 (oI 0), [])) rfl ?_
    refine t_0 qxm_107 rfl rfl ?_
    refine t_2 qxm_108 rfl (w := (px_s1 (px_s1 lvA 2 (oI 0)) 3 (oI 0), [])) rfl ?_
    refine gl_li (W := Wgli) (w0 := gA) (h0 := gA) (by omega) Wgli_1.1 Wgli_1.2.1 Wgli_1.2.2.1 (fun gB lvB JB zB aB bB k2 k3 => ?_) 12 0 _ _ (by have := gb_f hJA.1 (y := 23) rfl rfl gf_23; omega) (by omega) (J_rf hJA.1) rfl rfl rfl (s1_ne (by decide) (fun _ => rfl) (s1_ne (by decide) (fun _ => rfl) k0)) (s1_ne (by decide) (fun _ => rfl) (s1_ne (by decide) (fun _ => rfl) k1)) (s1_ne (by decide) (fun _ => rfl) s1_eq) s1_eq
    have hJB := J_up Wgli_1.2.2.2.1 hJA JB
    have D2 : dwQ (m : Int) 23 208 209 gA gB := ⟨zB, aB, bB⟩
    refine t_0 qxm_179 rfl rfl ?_
    refine t_5 qxm_180 rfl rfl ?_
    refine hA ⟨m, hm, rfl, c0⟩ gB hJB ?_ ?_
    · exact dwQ_e D1 (by rw [v4_22, v3_22]) (by rw [u4_206, u3_206]) (by rw [u4_207, u3_207]) (fF_M JB.2 Wgli_1.2.2.2.2.2.2) (fA_M JB.2 Wgli_1.2.2.2.2.1) (fA_M JB.2 Wgli_1.2.2.2.2.2.1)
    · exact dwQ_e D2 (by rw [fF_M JA.2 Wgcl_1.2.2.2.2.2.2, v4_23, v3_23]) (by rw [fA_M JA.2 Wgcl_1.2.2.2.2.1, u4_208, u3_208]) (by rw [fA_M JA.2 Wgcl_1.2.2.2.2.2.1, u4_209, u3_209]) rfl rfl rfl
  · show t_X d 194 5 lv [oI (0)] g P
    refine tz_ne qxm_5 (by decide) ⟨by omega, by omega⟩ (fun c7 => absurd c7 (by omega)) (fun c7 => ?_)
    show t_X d 194 8 lv [] g P
    refine t_0 qxm_8 rfl rfl ?_
    refine t_5 qxm_9 rfl rfl ?_
    exact hR c0
set_option maxHeartbeats 2000000 in
theorem cx_loop {d K K2 N n : Nat} {W : Nat} {h0 w0 : pH} (hk : eL[K]? = some (1, N)) (hk2 : eL[K2]? = some (1, N)) (hne : K ≠ K2) (hb : Nat.ble N 10000 = true) (hb2 : Nat.beq K 1000 = false) (hn : n = N) (hg : eG (cn K) = (0, 31, [])) (hg2 : eG (cn K2) = (0, 31, [])) (hW : W.testBit (cn K2) = true) {P : Option pv × pH → Prop} (hP : ∀ g1 : pH, J_ W w0 g1 → (∀ j, j < N → fA g1 K2 j = fA h0 K j) → (∀ Q, Q ≠ K2 → fA g1 Q = fA h0 Q) → g1.1 = h0.1 → P (none, g1)) : ∀ (q m : Nat) (lv : List (Nat × pv)) (g : pH), N - m ≤ q → m ≤ N → J_ W w0 g → (∀ j, j < m → fA g K2 j = fA h0 K j) → (∀ Q, Q ≠ K2 → fA g Q = fA h0 Q) → g.1 = h0.1 → px_lg lv 0 = some (pvR K) → px_lg lv 1 = some (pvR K2) → px_lg lv 2 = some (oI (n : Int)) → px_lg lv 3 = some (oI (m : Int)) → t_X d 179 2 lv [] g P := by
  have hb1 := Nat.le_of_ble_eq_true hb
  intro q
  induction q with
  | zero =>
    intro m lv g hq hm hJ hA hO hF l0 l1 l2 l3
    refine t_0 qcp_2 rfl (ld_i l3) ?_
    refine t_0 qcp_3 rfl (ld_i l2) ?_
    refine tb_ge qcp_4 (by decide) ⟨by omega, by omega⟩ ⟨by omega, by omega⟩ (fun c1 => ?_) (fun c1 => absurd c1 (by omega))
    show t_X d 179 19 lv [] g P
    refine t_5 qcp_19 rfl rfl ?_
    exact hP _ hJ (fun j hj => hA j (by omega)) hO hF
  | succ q ih =>
    intro m lv g hq hm hJ hA hO hF l0 l1 l2 l3
    refine t_0 qcp_2 rfl (ld_i l3) ?_
    refine t_0 qcp_3 rfl (ld_i l2) ?_
    refine tb_ge qcp_4 (by decide) ⟨by omega, by omega⟩ ⟨by omega, by omega⟩ (fun c1 => ?_) (fun c1 => ?_)
    · show t_X d 179 19 lv [] g P
      refine t_5 qcp_19 rfl rfl ?_
      exact hP _ hJ (fun j hj => hA j (by omega)) hO hF
    · show t_X d 179 7 lv [] g P
      refine t_0 qcp_7 rfl (ld_a l1) ?_
      refine t_0 qcp_8 rfl (ld_i l3) ?_
      refine t_0 qcp_9 rfl (ld_a l0) ?_
      refine t_0 qcp_10 rfl (ld_i l3) ?_
      have hv := gb_a hJ.1 hk (j := m) (by omega) hg
      refine t_0 qcp_11 rfl (pq_ia hk hb ⟨by omega, by omega⟩) ?_
      show t_X d 179 12 lv [oI (fA g K m), oI ((m : Int)), pvR K2] g P
      refine tw_i qcp_12 hJ hk2 hb hW hg2 ⟨by omega, by omega⟩ (rg31 ⟨by omega, by omega⟩) (fun g3 hJ3 e3 => ?_)
      have u3 : fA g3 K2 = updI (fA g K2) (m : Int).toNat (fA g K m) := by rw [e3]; exact fA_pu2 ⟨by omega, by omega⟩
      show t_X d 179 13 lv [] g3 P
      refine t_2 qcp_13 rfl (w := (px_s1 lv 3 (oI ((m : Int) + 1)), [])) (pq_inc l3 (by decide)) ?_
      replace l0 : px_lg (px_s1 lv 3 (oI ((m : Int) + 1))) 0 = some (pvR K) := s1_ne (by decide) (fun _ => rfl) l0
      replace l1 : px_lg (px_s1 lv 3 (oI ((m : Int) + 1))) 1 = some (pvR K2) := s1_ne (by decide) (fun _ => rfl) l1
      replace l2 : px_lg (px_s1 lv 3 (oI ((m : Int) + 1))) 2 = some (oI (n : Int)) := s1_ne (by decide) (fun _ => rfl) l2
      have l3 : px_lg (px_s1 lv 3 (oI ((m : Int) + 1))) 3 = some (oI ((m : Int) + 1)) := s1_eq
      generalize px_s1 lv 3 (oI ((m : Int) + 1)) = lv4 at l0 l1 l2 l3 ⊢
      show t_X d 179 16 lv4 [] g3 P
      refine t_1 qcp_16 rfl (pb_goto (pc := 16) (by decide)) ?_
      show t_X d 179 2 lv4 [] g3 P
      refine ih (m + 1) lv4 g3 (by omega) (by omega) hJ3 (fun j hj => ?_) (fun Q hQ => ?_) (by rw [e3]; exact hF) l0 l1 l2 l3
      · rw [u3]
        show (if j = m then fA g K m else fA g K2 j) = _
        by_cases z : j = m
        · rw [if_pos z, z, hO K hne]
        · rw [if_neg z]
          exact hA j (by omega)
      · rw [e3, fA_pn hQ]
        exact hO Q hQ
theorem cx_run {d K K2 N : Nat} {h0 : pH} (hG : g_I eG h0) (hk : eL[K]? = some (1, N)) (hk2 : eL[K2]? = some (1, N)) (hne : K ≠ K2) (hb : Nat.ble N 10000 = true) (hb2 : Nat.beq K 1000 = false) (hg : eG (cn K) = (0, 31, [])) (hg2 : eG (cn K2) = (0, 31, [])) {P : Option pv × pH → Prop} (hP : ∀ g1 : pH, J_ (2 ^ cn K2) h0 g1 → (∀ j, j < N → fA g1 K2 j = fA h0 K j) → (∀ Q, Q ≠ K2 → fA g1 Q = fA h0 Q) → g1.1 = h0.1 → P (none, g1)) {lv : List (Nat × pv)} (l0 : px_lg lv 0 = some (pvR K)) (l1 : px_lg lv 1 = some (pvR K2)) (l2 : px_lg lv 2 = some (oI (N : Int))) : t_X d 179 0 lv [] h0 P := by
  refine t_0 qcp_0 rfl rfl ?_
  refine t_2 qcp_1 rfl (w := (px_s1 lv 3 (oI 0), [])) rfl ?_
  exact cx_loop hk hk2 hne hb hb2 rfl hg hg2 Nat.testBit_two_pow_self hP N 0 _ _ (by omega) (by omega) (J_rf hG) (fun j hj => absurd hj (by omega)) (fun _ _ => rfl) rfl (s1_ne (by decide) (fun _ => rfl) l0) (s1_ne (by decide) (fun _ => rfl) l1) (s1_ne (by decide) (fun _ => rfl) l2) s1_eq
end
section
/-! the tie: rows of twos: keep and undo (printed by wip/e2/t17.py) -/
theorem qkq_0 : xe_look (xc 126) 0 = some (.aload_n 0, 1, 0, 0, 0) := by decide +kernel
theorem qkq_1 : xe_look (xc 126) 1 = some (.getfield 20, 3, 11, 3, 1029) := by decide +kernel
theorem qkq_4 : xe_look (xc 126) 4 = some (.aload_n 0, 1, 0, 0, 0) := by decide +kernel
theorem qkq_5 : xe_look (xc 126) 5 = some (.getfield 16, 3, 11, 2, 983) := by decide +kernel
theorem qkq_8 : xe_look (xc 126) 8 = some (.invokevirtual 398, 3, 0, 79, 1050) := by decide +kernel
theorem qunq_0 : xe_look (xc 160) 0 = some (.aload_n 0, 1, 0, 0, 0) := by decide +kernel
theorem qunq_1 : xe_look (xc 160) 1 = some (.getfield 401, 3, 11, 4, 1051) := by decide +kernel
theorem qunq_4 : xe_look (xc 160) 4 = some (.ifCond .eq 14, 3, 0, 0, 0) := by decide +kernel
theorem qunq_7 : xe_look (xc 160) 7 = some (.aload_n 0, 1, 0, 0, 0) := by decide +kernel
theorem qunq_8 : xe_look (xc 160) 8 = some (.getfield 16, 3, 11, 2, 983) := by decide +kernel
theorem qunq_11 : xe_look (xc 160) 11 = some (.aload_n 0, 1, 0, 0, 0) := by decide +kernel
theorem qunq_12 : xe_look (xc 160) 12 = some (.getfield 20, 3, 11, 3, 1029) := by decide +kernel
theorem qunq_15 : xe_look (xc 160) 15 = some (.invokevirtual 398, 3, 0, 79, 1050) := by decide +kernel
theorem qvk_75 : xe_look (xc 79) 75 = some (.aload_n 0, 1, 0, 0, 0) := by decide +kernel
theorem qvk_76 : xe_look (xc 79) 76 = some (.getfield 34, 3, 8, 5, 931) := by decide +kernel
theorem qvk_79 : xe_look (xc 79) 79 = some (.aload_n 1, 1, 0, 0, 0) := by decide +kernel
theorem qvk_80 : xe_look (xc 79) 80 = some (.getfield 34, 3, 8, 5, 931) := by decide +kernel
theorem qvk_83 : xe_look (xc 79) 83 = some (.invokevirtual 75, 3, 0, 70, 932) := by decide +kernel
theorem qvk_86 : xe_look (xc 79) 86 = some (.aload_n 0, 1, 0, 0, 0) := by decide +kernel
theorem qvk_87 : xe_look (xc 79) 87 = some (.getfield 38, 3, 8, 6, 933) := by decide +kernel
theorem qvk_90 : xe_look (xc 79) 90 = some (.aload_n 1, 1, 0, 0, 0) := by decide +kernel
theorem qvk_91 : xe_look (xc 79) 91 = some (.getfield 38, 3, 8, 6, 933) := by decide +kernel
theorem qvk_94 : xe_look (xc 79) 94 = some (.invokevirtual 75, 3, 0, 70, 932) := by decide +kernel
theorem qvu_75 : xe_look (xc 79) 75 = some (.aload_n 0, 1, 0, 0, 0) := by decide +kernel
theorem qvu_76 : xe_look (xc 79) 76 = some (.getfield 34, 3, 8, 5, 931) := by decide +kernel
theorem qvu_79 : xe_look (xc 79) 79 = some (.aload_n 1, 1, 0, 0, 0) := by decide +kernel
theorem qvu_80 : xe_look (xc 79) 80 = some (.getfield 34, 3, 8, 5, 931) := by decide +kernel
theorem qvu_83 : xe_look (xc 79) 83 = some (.invokevirtual 75, 3, 0, 70, 932) := by decide +kernel
theorem qvu_86 : xe_look (xc 79) 86 = some (.aload_n 0, 1, 0, 0, 0) := by decide +kernel
theorem qvu_87 : xe_look (xc 79) 87 = some (.getfield 38, 3, 8, 6, 933) := by decide +kernel
theorem qvu_90 : xe_look (xc 79) 90 = some (.aload_n 1, 1, 0, 0, 0) := by decide +kernel
theorem qvu_91 : xe_look (xc 79) 91 = some (.getfield 38, 3, 8, 6, 933) := by decide +kernel
theorem qvu_94 : xe_look (xc 79) 94 = some (.invokevirtual 75, 3, 0, 70, 932) := by decide +kernel
theorem qzk_0 : xe_look (xc 209) 0 = some (.aload_n 0, 1, 0, 0, 0) := by decide +kernel
theorem qzk_1 : xe_look (xc 209) 1 = some (.iconst 1, 1, 0, 0, 0) := by decide +kernel
theorem qzk_2 : xe_look (xc 209) 2 = some (.putfield 516, 3, 12, 72, 1223) := by decide +kernel
theorem qzk_5 : xe_look (xc 209) 5 = some (.aload_n 0, 1, 0, 0, 0) := by decide +kernel
theorem qzk_6 : xe_look (xc 209) 6 = some (.aload_n 0, 1, 0, 0, 0) := by decide +kernel
theorem qzk_7 : xe_look (xc 209) 7 = some (.getfield 183, 3, 12, 0, 1158) := by decide +kernel
theorem qzk_10 : xe_look (xc 209) 10 = some (.putfield 520, 3, 12, 73, 1224) := by decide +kernel
theorem qzk_13 : xe_look (xc 209) 13 = some (.aload_n 0, 1, 0, 0, 0) := by decide +kernel
theorem qzk_14 : xe_look (xc 209) 14 = some (.aload_n 0, 1, 0, 0, 0) := by decide +kernel
theorem qzk_15 : xe_look (xc 209) 15 = some (.getfield 191, 3, 12, 1, 1160) := by decide +kernel
theorem qzk_18 : xe_look (xc 209) 18 = some (.putfield 523, 3, 12, 74, 1225) := by decide +kernel
theorem qzk_21 : xe_look (xc 209) 21 = some (.aload_n 0, 1, 0, 0, 0) := by decide +kernel
theorem qzk_22 : xe_look (xc 209) 22 = some (.aload_n 0, 1, 0, 0, 0) := by decide +kernel
theorem qzk_23 : xe_look (xc 209) 23 = some (.getfield 212, 3, 12, 22, 1147) := by decide +kernel
theorem qzk_26 : xe_look (xc 209) 26 = some (.putfield 526, 3, 12, 75, 1226) := by decide +kernel
theorem qzk_29 : xe_look (xc 209) 29 = some (.aload_n 0, 1, 0, 0, 0) := by decide +kernel
theorem qzk_30 : xe_look (xc 209) 30 = some (.aload_n 0, 1, 0, 0, 0) := by decide +kernel
theorem qzk_31 : xe_look (xc 209) 31 = some (.getfield 215, 3, 12, 23, 1117) := by decide +kernel
theorem qzk_34 : xe_look (xc 209) 34 = some (.putfield 529, 3, 12, 76, 1227) := by decide +kernel
theorem qzk_141 : xe_look (xc 209) 141 = some (.aload_n 0, 1, 0, 0, 0) := by decide +kernel
theorem qzk_142 : xe_look (xc 209) 142 = some (.getfield 37, 3, 12, 11, 1148) := by decide +kernel
theorem qzk_145 : xe_look (xc 209) 145 = some (.aload_n 0, 1, 0, 0, 0) := by decide +kernel
theorem qzk_146 : xe_look (xc 209) 146 = some (.getfield 168, 3, 12, 85, 1217) := by decide +kernel
theorem qzk_149 : xe_look (xc 209) 149 = some (.bipush 24, 2, 0, 0, 0) := by decide +kernel
theorem qzk_151 : xe_look (xc 209) 151 = some (.invokestatic 292, 3, 0, 179, 1228) := by decide +kernel
theorem qzk_154 : xe_look (xc 209) 154 = some (.aload_n 0, 1, 0, 0, 0) := by decide +kernel
theorem qzk_155 : xe_look (xc 209) 155 = some (.getfield 40, 3, 12, 12, 1149) := by decide +kernel
theorem qzk_158 : xe_look (xc 209) 158 = some (.aload_n 0, 1, 0, 0, 0) := by decide +kernel
theorem qzk_159 : xe_look (xc 209) 159 = some (.getfield 171, 3, 12, 86, 1218) := by decide +kernel
theorem qzk_162 : xe_look (xc 209) 162 = some (.bipush 24, 2, 0, 0, 0) := by decide +kernel
theorem qzk_164 : xe_look (xc 209) 164 = some (.invokestatic 292, 3, 0, 179, 1228) := by decide +kernel
theorem qzk_167 : xe_look (xc 209) 167 = some (.aload_n 0, 1, 0, 0, 0) := by decide +kernel
theorem qzk_168 : xe_look (xc 209) 168 = some (.getfield 43, 3, 12, 13, 1120) := by decide +kernel
theorem qzk_171 : xe_look (xc 209) 171 = some (.aload_n 0, 1, 0, 0, 0) := by decide +kernel
theorem qzk_172 : xe_look (xc 209) 172 = some (.getfield 174, 3, 12, 87, 1219) := by decide +kernel
theorem qzk_175 : xe_look (xc 209) 175 = some (.bipush 12, 2, 0, 0, 0) := by decide +kernel
theorem qzk_177 : xe_look (xc 209) 177 = some (.invokestatic 292, 3, 0, 179, 1228) := by decide +kernel
theorem qzk_180 : xe_look (xc 209) 180 = some (.aload_n 0, 1, 0, 0, 0) := by decide +kernel
theorem qzk_181 : xe_look (xc 209) 181 = some (.getfield 46, 3, 12, 14, 1118) := by decide +kernel
theorem qzk_184 : xe_look (xc 209) 184 = some (.aload_n 0, 1, 0, 0, 0) := by decide +kernel
theorem qzk_185 : xe_look (xc 209) 185 = some (.getfield 177, 3, 12, 88, 1220) := by decide +kernel
theorem qzk_188 : xe_look (xc 209) 188 = some (.bipush 12, 2, 0, 0, 0) := by decide +kernel
theorem qzk_190 : xe_look (xc 209) 190 = some (.invokestatic 292, 3, 0, 179, 1228) := by decide +kernel
theorem qzu_0 : xe_look (xc 270) 0 = some (.aload_n 0, 1, 0, 0, 0) := by decide +kernel
theorem qzu_1 : xe_look (xc 270) 1 = some (.getfield 516, 3, 12, 72, 1223) := by decide +kernel
theorem qzu_4 : xe_look (xc 270) 4 = some (.ifCond .ne 5, 3, 0, 0, 0) := by decide +kernel
theorem qzu_7 : xe_look (xc 270) 7 = some (.iconst 0, 1, 0, 0, 0) := by decide +kernel
theorem qzu_8 : xe_look (xc 270) 8 = some (.ireturn, 1, 0, 0, 0) := by decide +kernel
theorem qzu_9 : xe_look (xc 270) 9 = some (.aload_n 0, 1, 0, 0, 0) := by decide +kernel
theorem qzu_10 : xe_look (xc 270) 10 = some (.aload_n 0, 1, 0, 0, 0) := by decide +kernel
theorem qzu_11 : xe_look (xc 270) 11 = some (.getfield 520, 3, 12, 73, 1224) := by decide +kernel
theorem qzu_14 : xe_look (xc 270) 14 = some (.putfield 183, 3, 12, 0, 1158) := by decide +kernel
theorem qzu_17 : xe_look (xc 270) 17 = some (.aload_n 0, 1, 0, 0, 0) := by decide +kernel
theorem qzu_18 : xe_look (xc 270) 18 = some (.aload_n 0, 1, 0, 0, 0) := by decide +kernel
theorem qzu_19 : xe_look (xc 270) 19 = some (.getfield 523, 3, 12, 74, 1225) := by decide +kernel
theorem qzu_22 : xe_look (xc 270) 22 = some (.putfield 191, 3, 12, 1, 1160) := by decide +kernel
theorem qzu_25 : xe_look (xc 270) 25 = some (.aload_n 0, 1, 0, 0, 0) := by decide +kernel
theorem qzu_26 : xe_look (xc 270) 26 = some (.aload_n 0, 1, 0, 0, 0) := by decide +kernel
theorem qzu_27 : xe_look (xc 270) 27 = some (.getfield 526, 3, 12, 75, 1226) := by decide +kernel
theorem qzu_30 : xe_look (xc 270) 30 = some (.putfield 212, 3, 12, 22, 1147) := by decide +kernel
theorem qzu_33 : xe_look (xc 270) 33 = some (.aload_n 0, 1, 0, 0, 0) := by decide +kernel
theorem qzu_34 : xe_look (xc 270) 34 = some (.aload_n 0, 1, 0, 0, 0) := by decide +kernel
theorem qzu_35 : xe_look (xc 270) 35 = some (.getfield 529, 3, 12, 76, 1227) := by decide +kernel
theorem qzu_38 : xe_look (xc 270) 38 = some (.putfield 215, 3, 12, 23, 1117) := by decide +kernel
theorem qzu_145 : xe_look (xc 270) 145 = some (.aload_n 0, 1, 0, 0, 0) := by decide +kernel
theorem qzu_146 : xe_look (xc 270) 146 = some (.getfield 168, 3, 12, 85, 1217) := by decide +kernel
theorem qzu_149 : xe_look (xc 270) 149 = some (.aload_n 0, 1, 0, 0, 0) := by decide +kernel
theorem qzu_150 : xe_look (xc 270) 150 = some (.getfield 37, 3, 12, 11, 1148) := by decide +kernel
theorem qzu_153 : xe_look (xc 270) 153 = some (.bipush 24, 2, 0, 0, 0) := by decide +kernel
theorem qzu_155 : xe_look (xc 270) 155 = some (.invokestatic 292, 3, 0, 179, 1228) := by decide +kernel
theorem qzu_158 : xe_look (xc 270) 158 = some (.aload_n 0, 1, 0, 0, 0) := by decide +kernel
theorem qzu_159 : xe_look (xc 270) 159 = some (.getfield 171, 3, 12, 86, 1218) := by decide +kernel
theorem qzu_162 : xe_look (xc 270) 162 = some (.aload_n 0, 1, 0, 0, 0) := by decide +kernel
theorem qzu_163 : xe_look (xc 270) 163 = some (.getfield 40, 3, 12, 12, 1149) := by decide +kernel
theorem qzu_166 : xe_look (xc 270) 166 = some (.bipush 24, 2, 0, 0, 0) := by decide +kernel
theorem qzu_168 : xe_look (xc 270) 168 = some (.invokestatic 292, 3, 0, 179, 1228) := by decide +kernel
theorem qzu_171 : xe_look (xc 270) 171 = some (.aload_n 0, 1, 0, 0, 0) := by decide +kernel
theorem qzu_172 : xe_look (xc 270) 172 = some (.getfield 174, 3, 12, 87, 1219) := by decide +kernel
theorem qzu_175 : xe_look (xc 270) 175 = some (.aload_n 0, 1, 0, 0, 0) := by decide +kernel
theorem qzu_176 : xe_look (xc 270) 176 = some (.getfield 43, 3, 12, 13, 1120) := by decide +kernel
theorem qzu_179 : xe_look (xc 270) 179 = some (.bipush 12, 2, 0, 0, 0) := by decide +kernel
theorem qzu_181 : xe_look (xc 270) 181 = some (.invokestatic 292, 3, 0, 179, 1228) := by decide +kernel
theorem qzu_184 : xe_look (xc 270) 184 = some (.aload_n 0, 1, 0, 0, 0) := by decide +kernel
theorem qzu_185 : xe_look (xc 270) 185 = some (.getfield 177, 3, 12, 88, 1220) := by decide +kernel
theorem qzu_188 : xe_look (xc 270) 188 = some (.aload_n 0, 1, 0, 0, 0) := by decide +kernel
theorem qzu_189 : xe_look (xc 270) 189 = some (.getfield 46, 3, 12, 14, 1118) := by decide +kernel
theorem qzu_192 : xe_look (xc 270) 192 = some (.bipush 12, 2, 0, 0, 0) := by decide +kernel
theorem qzu_194 : xe_look (xc 270) 194 = some (.invokestatic 292, 3, 0, 179, 1228) := by decide +kernel
theorem cg_76_5 : (eG (cn 76 + 5)).2.2 = [145] := by decide +kernel
theorem cr_76_5 {d i : Nat} {lv : List (Nat × pv)} {r : List pv} {g : pH} (hG : g_I eG g) : px_push eL d none (.getfield i) 8 5 lv (pvR 76 :: r) g = some (pvR 144 :: r) := pget er_76 (gI_o (r := 144) hG er_76 (Nat.le_of_ble_eq_true rfl) (y := 5) rfl cg_76_5)
theorem cg_76_6 : (eG (cn 76 + 6)).2.2 = [148] := by decide +kernel
theorem cr_76_6 {d i : Nat} {lv : List (Nat × pv)} {r : List pv} {g : pH} (hG : g_I eG g) : px_push eL d none (.getfield i) 8 6 lv (pvR 76 :: r) g = some (pvR 147 :: r) := pget er_76 (gI_o (r := 147) hG er_76 (Nat.le_of_ble_eq_true rfl) (y := 6) rfl cg_76_6)
theorem gf_1 : eG (cn 196 + 1) = (0, 255, []) := by decide +kernel
theorem gf_74 : eG (cn 196 + 74) = (0, 255, []) := by decide +kernel
theorem gf_75 : eG (cn 196 + 75) = (0, 24, []) := by decide +kernel
theorem gf_76 : eG (cn 196 + 76) = (0, 12, []) := by decide +kernel
theorem lv_q {lv : List (Nat × pv)} {q k r : Nat} {xs : List Int} (hr : r = k + 1) {ss : List eSL} (h : m_L lv ((q, 2, (0, 100000, [r])) :: ss) xs) : px_lg lv q = some (pvR k) ∧ ∃ ys, m_L lv ss ys := by
  match xs, h with
  | x :: xs, h =>
    obtain ⟨⟨v, h1, h2, h3, h4⟩, h5⟩ := h
    refine ⟨?_, xs, h5⟩
    obtain ⟨q, rfl⟩ := ct_2 h2
    rcases h4.2.2 with z | z
    · cases z
    · have z := List.mem_singleton.mp z
      match q, h1, h3 with
      | none, h1, h3 =>
        have h3 : (0 : Int) = x := h3
        subst h3
        rw [hr] at z
        have z : (0 : Int).toNat = k + 1 := z
        omega
      | some q, h1, h3 =>
        have h3 : (q : Int) + 1 = x := h3
        have z2 : x.toNat = k + 1 := by rw [← hr]; exact z
        rw [show q = k by omega] at h1
        exact h1
theorem cpR_e {k a b k2 a2 b2 : Nat} {g g0 g1 g2 : pH} (h : cpR k a b k2 a2 b2 g0 g1) (h1 : cF g0 k 2 = cF g k 2) (h2 : fA g0 a = fA g a) (h3 : fA g0 b = fA g b) (h4 : cF g2 k2 2 = cF g1 k2 2) (h5 : fA g2 a2 = fA g1 a2) (h6 : fA g2 b2 = fA g1 b2) : cpR k a b k2 a2 b2 g g2 := by
  unfold cpR at h ⊢
  rw [h4, h5, h6, ← h1, ← h2, ← h3]
  exact h
def kvk : eK := (79, (2, [(0, 2, (0, 100000, [77])), (1, 2, (0, 100000, [3]))], [], []), (0, []), 5920216619289988304008851525635890939624756583412816021193461439696055734099556687926798736292020214448276508888260400838022595760923351134599499860485051298233452989635818185134819730953077439715200170898292546703454629789696, [])
def svk : eCc := (75, (2, [(0, 2, (0, 100000, [77])), (1, 2, (0, 100000, [3]))], [], []), (-1, []))
theorem evk : ex_to eG eKT eDX 4000 kvk kc_82 svk 0 = true := by decide +kernel
def kwk : eK := (79, (2, [(0, 2, (0, 100000, [77])), (1, 2, (0, 100000, [3]))], [], []), (0, []), 40347654345107946713373737062547060536401653012956617387979052445947619094013143666088208645002153616185987062074179584, [(none, [], [])])
theorem ewk : ex_mid eG eKT eDX 4000 kwk [] 97 = true := by decide +kernel
theorem Wvk : kvk.2.2.2.1 &&& kk_82.2.2.2.1 = kvk.2.2.2.1 ∧ Wk144 &&& kk_82.2.2.2.1 = Wk144 ∧ Wk147 &&& kk_82.2.2.2.1 = Wk147 ∧ kwk.2.2.2.1 &&& kk_82.2.2.2.1 = kwk.2.2.2.1 ∧ kk_82.2.2.2.1 &&& eDX = 0 := by decide +kernel
theorem Wxk : kvk.2.2.2.1.testBit (cn 70 + 2) = false ∧ kvk.2.2.2.1.testBit (cn 73 + 2) = false ∧ kvk.2.2.2.1.testBit (cn 71) = false ∧ kvk.2.2.2.1.testBit (cn 72) = false ∧ kvk.2.2.2.1.testBit (cn 74) = false ∧ kvk.2.2.2.1.testBit (cn 75) = false ∧ Wk144.testBit (cn 73 + 2) = false ∧ Wk144.testBit (cn 74) = false ∧ Wk144.testBit (cn 75) = false ∧ Wk147.testBit (cn 144 + 2) = false ∧ Wk147.testBit (cn 145) = false ∧ Wk147.testBit (cn 146) = false ∧ kwk.2.2.2.1.testBit (cn 144 + 2) = false ∧ kwk.2.2.2.1.testBit (cn 147 + 2) = false ∧ kwk.2.2.2.1.testBit (cn 145) = false ∧ kwk.2.2.2.1.testBit (cn 146) = false ∧ kwk.2.2.2.1.testBit (cn 148) = false ∧ kwk.2.2.2.1.testBit (cn 149) = false := by decide +kernel
set_option maxHeartbeats 2000000 in
theorem s9k_run {d : Nat} (hd : 5 ≤ d) (hd2 : d ≤ 1000000) {g : pH} (hG : g_I eG g) (hx : xL g) {P : Option pv × pH → Prop} (hP : ∀ g1 : pH, J_ kk_82.2.2.2.1 g g1 → xL g1 → cpR 70 71 72 144 145 146 g g1 → cpR 73 74 75 147 148 149 g g1 → P (none, g1)) {lv : List (Nat × pv)} (l0 : px_lg lv 0 = some (pvR 76)) (l1 : px_lg lv 1 = some (pvR 2)) : t_X d 79 0 lv [] g P := by
  refine to_L (k := kvk) evk rfl hG hx (xs := [cv (pvR 76), cv (pvR 2)]) (ys := []) ⟨by show 2 ≤ _; omega, ⟨⟨pvR 76, l0, rfl, rfl, ok_rl rfl (by decide)⟩, ⟨pvR 2, l1, rfl, rfl, ok_rl rfl (by decide)⟩, trivial⟩, trivial, fun c hc => absurd hc List.not_mem_nil⟩ (by omega) (fun lvA gA xs2 ys2 G2 X2 M2 P2 => ?_)
  clear l0 l1
  obtain ⟨-, L2, -, -⟩ := P2
  obtain ⟨l0, y0, L2⟩ := lv_q rfl L2
  obtain ⟨l1, y1, L2⟩ := lv_q rfl L2
  have hJA : J_ kk_82.2.2.2.1 g gA := ⟨G2, f_M_w Wvk.1 M2⟩
  show t_X d 79 75 lvA [] gA P
  refine t_0 qvk_75 rfl (ld_a l0) ?_
  refine t_0 qvk_76 rfl (cr_76_5 hJA.1) ?_
  refine t_0 qvk_79 rfl (ld_a l1) ?_
  refine t_0 qvk_80 rfl (cr_2_5 hJA.1) ?_
  refine t_3 qvk_83 rfl (ar := ([pvR 144, pvR 70], [])) (pcal_v1 rfl rfl er_144) ⟨by omega, Nat.le_of_ble_eq_true rfl, Nat.le_of_ble_eq_true rfl, rfl⟩ ?_
  refine pk_144 (by omega) hJA.1 (fun gB JB QB => ?_) rfl rfl
  have hJB := J_up Wvk.2.1 hJA JB
  show t_X d 79 86 lvA [] gB P
  refine t_0 qvk_86 rfl (ld_a l0) ?_
  refine t_0 qvk_87 rfl (cr_76_6 hJB.1) ?_
  refine t_0 qvk_90 rfl (ld_a l1) ?_
  refine t_0 qvk_91 rfl (cr_2_6 hJB.1) ?_
  refine t_3 qvk_94 rfl (ar := ([pvR 147, pvR 73], [])) (pcal_v1 rfl rfl er_147) ⟨by omega, Nat.le_of_ble_eq_true rfl, Nat.le_of_ble_eq_true rfl, rfl⟩ ?_
  refine pk_147 (by omega) hJB.1 (fun gC JC QC => ?_) rfl rfl
  have hJC := J_up Wvk.2.2.1 hJB JC
  show t_X d 79 97 lvA [] gC P
  refine mid_L (k := kwk) ewk hJC.1 (xL_K _ _ _ hJC.2 Wvk.2.2.2.2 hx) (xs := [cv (pvR 76), cv (pvR 2)]) (ys := []) ⟨by show 2 ≤ _; omega, ⟨⟨pvR 76, l0, rfl, rfl, ok_rl rfl (by decide)⟩, ⟨pvR 2, l1, rfl, rfl, ok_rl rfl (by decide)⟩, trivial⟩, trivial, fun c hc => absurd hc List.not_mem_nil⟩ (by omega) (fun o G1 X1 M1 P1 => ?_)
  obtain ⟨o1, gD⟩ := o
  obtain ⟨rfl, -⟩ := po_n P1
  have hJD := J_up Wvk.2.2.2.1 hJC ⟨G1, M1⟩
  exact hP gD hJD X1 (cpR_e QB (cF_M M2 Wxk.1) (fA_M M2 Wxk.2.2.1) (fA_M M2 Wxk.2.2.2.1) ((cF_M M1 Wxk.2.2.2.2.2.2.2.2.2.2.2.2.1).trans (cF_M JC.2 Wxk.2.2.2.2.2.2.2.2.2.1)) ((fA_M M1 Wxk.2.2.2.2.2.2.2.2.2.2.2.2.2.2.1).trans (fA_M JC.2 Wxk.2.2.2.2.2.2.2.2.2.2.1)) ((fA_M M1 Wxk.2.2.2.2.2.2.2.2.2.2.2.2.2.2.2.1).trans (fA_M JC.2 Wxk.2.2.2.2.2.2.2.2.2.2.2.1))) (cpR_e QC ((cF_M JB.2 Wxk.2.2.2.2.2.2.1).trans (cF_M M2 Wxk.2.1)) ((fA_M JB.2 Wxk.2.2.2.2.2.2.2.1).trans (fA_M M2 Wxk.2.2.2.2.1)) ((fA_M JB.2 Wxk.2.2.2.2.2.2.2.2.1).trans (fA_M M2 Wxk.2.2.2.2.2.1)) (cF_M M1 Wxk.2.2.2.2.2.2.2.2.2.2.2.2.2.1) (fA_M M1 Wxk.2.2.2.2.2.2.2.2.2.2.2.2.2.2.2.2.1) (fA_M M1 Wxk.2.2.2.2.2.2.2.2.2.2.2.2.2.2.2.2.2))
def kvu : eK := (79, (2, [(0, 2, (0, 100000, [3])), (1, 2, (0, 100000, [77]))], [], []), (0, []), 307715388294501874267701154910077513390954813760189912998783262771883427633908491136443737497169098948157978738688, [])
def svu : eCc := (75, (2, [(0, 2, (0, 100000, [3])), (1, 2, (0, 100000, [77]))], [], []), (-1, []))
theorem evu : ex_to eG eKT eDX 4000 kvu kc_130 svu 0 = true := by decide +kernel
def kwu : eK := (79, (2, [(0, 2, (0, 100000, [3])), (1, 2, (0, 100000, [77]))], [], []), (0, []), 2097152, [(none, [], [])])
theorem ewu : ex_mid eG eKT eDX 4000 kwu [] 97 = true := by decide +kernel
theorem Wvu : kvu.2.2.2.1 &&& kk_130.2.2.2.1 = kvu.2.2.2.1 ∧ Wk70 &&& kk_130.2.2.2.1 = Wk70 ∧ Wk73 &&& kk_130.2.2.2.1 = Wk73 ∧ kwu.2.2.2.1 &&& kk_130.2.2.2.1 = kwu.2.2.2.1 ∧ kk_130.2.2.2.1 &&& eDX = 0 := by decide +kernel
theorem Wxu : kvu.2.2.2.1.testBit (cn 144 + 2) = false ∧ kvu.2.2.2.1.testBit (cn 147 + 2) = false ∧ kvu.2.2.2.1.testBit (cn 145) = false ∧ kvu.2.2.2.1.testBit (cn 146) = false ∧ kvu.2.2.2.1.testBit (cn 148) = false ∧ kvu.2.2.2.1.testBit (cn 149) = false ∧ Wk70.testBit (cn 147 + 2) = false ∧ Wk70.testBit (cn 148) = false ∧ Wk70.testBit (cn 149) = false ∧ Wk73.testBit (cn 70 + 2) = false ∧ Wk73.testBit (cn 71) = false ∧ Wk73.testBit (cn 72) = false ∧ kwu.2.2.2.1.testBit (cn 70 + 2) = false ∧ kwu.2.2.2.1.testBit (cn 73 + 2) = false ∧ kwu.2.2.2.1.testBit (cn 71) = false ∧ kwu.2.2.2.1.testBit (cn 72) = false ∧ kwu.2.2.2.1.testBit (cn 74) = false ∧ kwu.2.2.2.1.testBit (cn 75) = false := by decide +kernel
set_option maxHeartbeats 2000000 in
theorem s9u_run {d : Nat} (hd : 5 ≤ d) (hd2 : d ≤ 1000000) {g : pH} (hG : g_I eG g) (hx : xL g) {P : Option pv × pH → Prop} (hP : ∀ g1 : pH, J_ kk_130.2.2.2.1 g g1 → xL g1 → cpR 144 145 146 70 71 72 g g1 → cpR 147 148 149 73 74 75 g g1 → P (none, g1)) {lv : List (Nat × pv)} (l0 : px_lg lv 0 = some (pvR 2)) (l1 : px_lg lv 1 = some (pvR 76)) : t_X d 79 0 lv [] g P := by
  refine to_L (k := kvu) evu rfl hG hx (xs := [cv (pvR 2), cv (pvR 76)]) (ys := []) ⟨by show 2 ≤ _; omega, ⟨⟨pvR 2, l0, rfl, rfl, ok_rl rfl (by decide)⟩, ⟨pvR 76, l1, rfl, rfl, ok_rl rfl (by decide)⟩, trivial⟩, trivial, fun c hc => absurd hc List.not_mem_nil⟩ (by omega) (fun lvA gA xs2 ys2 G2 X2 M2 P2 => ?_)
  clear l0 l1
  obtain ⟨-, L2, -, -⟩ := P2
  obtain ⟨l0, y0, L2⟩ := lv_q rfl L2
  obtain ⟨l1, y1, L2⟩ := lv_q rfl L2
  have hJA : J_ kk_130.2.2.2.1 g gA := ⟨G2, f_M_w Wvu.1 M2⟩
  show t_X d 79 75 lvA [] gA P
  refine t_0 qvu_75 rfl (ld_a l0) ?_
  refine t_0 qvu_76 rfl (cr_2_5 hJA.1) ?_
  refine t_0 qvu_79 rfl (ld_a l1) ?_
  refine t_0 qvu_80 rfl (cr_76_5 hJA.1) ?_
  refine t_3 qvu_83 rfl (ar := ([pvR 70, pvR 144], [])) (pcal_v1 rfl rfl er_70) ⟨by omega, Nat.le_of_ble_eq_true rfl, Nat.le_of_ble_eq_true rfl, rfl⟩ ?_
  refine pk_70 (by omega) hJA.1 (fun gB JB QB => ?_) rfl rfl
  have hJB := J_up Wvu.2.1 hJA JB
  show t_X d 79 86 lvA [] gB P
  refine t_0 qvu_86 rfl (ld_a l0) ?_
  refine t_0 qvu_87 rfl (cr_2_6 hJB.1) ?_
  refine t_0 qvu_90 rfl (ld_a l1) ?_
  refine t_0 qvu_91 rfl (cr_76_6 hJB.1) ?_
  refine t_3 qvu_94 rfl (ar := ([pvR 73, pvR 147], [])) (pcal_v1 rfl rfl er_73) ⟨by omega, Nat.le_of_ble_eq_true rfl, Nat.le_of_ble_eq_true rfl, rfl⟩ ?_
  refine pk_73 (by omega) hJB.1 (fun gC JC QC => ?_) rfl rfl
  have hJC := J_up Wvu.2.2.1 hJB JC
  show t_X d 79 97 lvA [] gC P
  refine mid_L (k := kwu) ewu hJC.1 (xL_K _ _ _ hJC.2 Wvu.2.2.2.2 hx) (xs := [cv (pvR 2), cv (pvR 76)]) (ys := []) ⟨by show 2 ≤ _; omega, ⟨⟨pvR 2, l0, rfl, rfl, ok_rl rfl (by decide)⟩, ⟨pvR 76, l1, rfl, rfl, ok_rl rfl (by decide)⟩, trivial⟩, trivial, fun c hc => absurd hc List.not_mem_nil⟩ (by omega) (fun o G1 X1 M1 P1 => ?_)
  obtain ⟨o1, gD⟩ := o
  obtain ⟨rfl, -⟩ := po_n P1
  have hJD := J_up Wvu.2.2.2.1 hJC ⟨G1, M1⟩
  exact hP gD hJD X1 (cpR_e QB (cF_M M2 Wxu.1) (fA_M M2 Wxu.2.2.1) (fA_M M2 Wxu.2.2.2.1) ((cF_M M1 Wxu.2.2.2.2.2.2.2.2.2.2.2.2.1).trans (cF_M JC.2 Wxu.2.2.2.2.2.2.2.2.2.1)) ((fA_M M1 Wxu.2.2.2.2.2.2.2.2.2.2.2.2.2.2.1).trans (fA_M JC.2 Wxu.2.2.2.2.2.2.2.2.2.2.1)) ((fA_M M1 Wxu.2.2.2.2.2.2.2.2.2.2.2.2.2.2.2.1).trans (fA_M JC.2 Wxu.2.2.2.2.2.2.2.2.2.2.2.1))) (cpR_e QC ((cF_M JB.2 Wxu.2.2.2.2.2.2.1).trans (cF_M M2 Wxu.2.1)) ((fA_M JB.2 Wxu.2.2.2.2.2.2.2.1).trans (fA_M M2 Wxu.2.2.2.2.1)) ((fA_M JB.2 Wxu.2.2.2.2.2.2.2.2.1).trans (fA_M M2 Wxu.2.2.2.2.2.1)) (cF_M M1 Wxu.2.2.2.2.2.2.2.2.2.2.2.2.2.1) (fA_M M1 Wxu.2.2.2.2.2.2.2.2.2.2.2.2.2.2.2.2.1) (fA_M M1 Wxu.2.2.2.2.2.2.2.2.2.2.2.2.2.2.2.2.2))
def kk9 : eK := (126, (2, [(0, 2, (0, 100000, [1]))], [], []), (0, []), 16, [(some (0, ((-2147483648), 2147483647, [])), [], [])])
theorem ek9 : ex_mid eG eKT eDX 4000 kk9 [] 11 = true := by decide +kernel
def ku9 : eK := (160, (2, [(0, 2, (0, 100000, [1]))], [], []), (0, []), 0, [(some (0, ((-2147483648), 2147483647, [])), [], [])])
theorem eu9 : ex_mid eG eKT eDX 4000 ku9 [] 18 = true := by decide +kernel
theorem Wk9 : kk9.2.2.2.1.testBit (cn 144 + 2) = false ∧ kk9.2.2.2.1.testBit (cn 145) = false ∧ kk9.2.2.2.1.testBit (cn 146) = false ∧ kk9.2.2.2.1.testBit (cn 147 + 2) = false ∧ kk9.2.2.2.1.testBit (cn 148) = false ∧ kk9.2.2.2.1.testBit (cn 149) = false := by decide +kernel
theorem ck9_run {d : Nat} (hd : 8 ≤ d) (hd2 : d ≤ 1000000) {g : pH} (hG : g_I eG g) (hx : xL g) {P : Option pv × pH → Prop} (hP : ∀ (r : Option pv) (g1 : pH), cpR 70 71 72 144 145 146 g g1 → cpR 73 74 75 147 148 149 g g1 → P (r, g1)) {lv : List (Nat × pv)} (l0 : px_lg lv 0 = some (pvR 0)) : t_X d 126 0 lv [] g P := by
  have hJ : J_ 0 g g := J_rf hG
  refine t_0 qkq_0 rfl (ld_a l0) ?_
  refine t_0 qkq_1 rfl (cr_0_3 hJ.1) ?_
  refine t_0 qkq_4 rfl (ld_a l0) ?_
  refine t_0 qkq_5 rfl (cr_0_2 hJ.1) ?_
  refine t_3 qkq_8 rfl (ar := ([pvR 76, pvR 2], [])) (pcal_v1 rfl rfl er_76) ⟨by omega, Nat.le_of_ble_eq_true rfl, Nat.le_of_ble_eq_true rfl, rfl⟩ ?_
  refine s9k_run (by omega) (by omega) hG hx (fun gq Jq Xq C1 C2 => ?_) rfl rfl
  show t_X d 126 11 lv [] gq P
  refine mid_L (k := kk9) ek9 Jq.1 Xq (xs := [cv (pvR 0)]) (ys := []) ⟨by show 2 ≤ _; omega, ⟨⟨pvR 0, l0, rfl, rfl, ok_0⟩, trivial⟩, trivial, fun c hc => absurd hc List.not_mem_nil⟩ (by omega) (fun o G1 X1 M1 P1 => ?_)
  obtain ⟨o1, gD⟩ := o
  obtain ⟨w1, w2, w3, w4, w5, w6⟩ := Wk9
  exact hP o1 gD (cpR_e C1 rfl rfl rfl (cF_M M1 w1) (fA_M M1 w2) (fA_M M1 w3)) (cpR_e C2 rfl rfl rfl (cF_M M1 w4) (fA_M M1 w5) (fA_M M1 w6))
theorem cu9_run {d : Nat} (hd : 8 ≤ d) (hd2 : d ≤ 1000000) {g : pH} (hG : g_I eG g) (hx : xL g) {P : Option pv × pH → Prop} (hA : cF g 0 4 ≠ 0 → ∀ (r : Option pv) (g1 : pH), cpR 144 145 146 70 71 72 g g1 → cpR 147 148 149 73 74 75 g g1 → P (r, g1)) (hR : cF g 0 4 = 0 → ∀ (r : Option pv) (g1 : pH), f_M 0 g g1 → P (r, g1)) {lv : List (Nat × pv)} (l0 : px_lg lv 0 = some (pvR 0)) : t_X d 160 0 lv [] g P := by
  have hJ : J_ 0 g g := J_rf hG
  refine t_0 qunq_0 rfl (ld_a l0) ?_
  have r1 := cb_0_4 hJ.1
  refine t_0 qunq_1 rfl (pq_cz (y := 4) er_0 rfl) ?_
  refine tz_eq qunq_4 (by decide) ⟨by omega, by omega⟩ (fun c2 => ?_) (fun c2 => ?_)
  · show t_X d 160 18 lv [] g P
    refine mid_L (k := ku9) eu9 hG hx (xs := [cv (pvR 0)]) (ys := []) ⟨by show 2 ≤ _; omega, ⟨⟨pvR 0, l0, rfl, rfl, ok_0⟩, trivial⟩, trivial, fun c hc => absurd hc List.not_mem_nil⟩ (by omega) (fun o G1 X1 M1 P1 => ?_)
    obtain ⟨o1, gD⟩ := o
    exact hR (by omega) o1 gD M1
  · show t_X d 160 7 lv [] g P
    refine t_0 qunq_7 rfl (ld_a l0) ?_
    refine t_0 qunq_8 rfl (cr_0_2 hJ.1) ?_
    refine t_0 qunq_11 rfl (ld_a l0) ?_
    refine t_0 qunq_12 rfl (cr_0_3 hJ.1) ?_
    refine t_3 qunq_15 rfl (ar := ([pvR 2, pvR 76], [])) (pcal_v1 rfl rfl er_2) ⟨by omega, Nat.le_of_ble_eq_true rfl, Nat.le_of_ble_eq_true rfl, rfl⟩ ?_
    refine s9u_run (by omega) (by omega) hG hx (fun gq Jq Xq C1 C2 => ?_) rfl rfl
    show t_X d 160 18 lv [] gq P
    refine mid_L (k := ku9) eu9 Jq.1 Xq (xs := [cv (pvR 0)]) (ys := []) ⟨by show 2 ≤ _; omega, ⟨⟨pvR 0, l0, rfl, rfl, ok_0⟩, trivial⟩, trivial, fun c hc => absurd hc List.not_mem_nil⟩ (by omega) (fun o G1 X1 M1 P1 => ?_)
    obtain ⟨o1, gD⟩ := o
    exact hA (by omega) o1 gD (cpR_e C1 rfl rfl rfl (cF_M0 M1 _ _) (fA_M M1 (Nat.zero_testBit _)) (fA_M M1 (Nat.zero_testBit _))) (cpR_e C2 rfl rfl rfl (cF_M0 M1 _ _) (fA_M M1 (Nat.zero_testBit _)) (fA_M M1 (Nat.zero_testBit _)))
def cpQ (y A B N y2 A2 B2 : Nat) (g g1 : pH) : Prop := fF g1 y2 = fF g y ∧ ∀ j, j < N → fA g1 A2 j = fA g A j ∧ fA g1 B2 j = fA g B j
theorem gX_76 : eG (cn 196 + 76) = (0, 12, []) := by decide +kernel
theorem gX_75 : eG (cn 196 + 75) = (0, 24, []) := by decide +kernel
theorem gX_74 : eG (cn 196 + 74) = (0, 255, []) := by decide +kernel
theorem gX_73 : eG (cn 196 + 73) = ((-2147483648), 2147483647, []) := by decide +kernel
theorem gX_23 : eG (cn 196 + 23) = (0, 12, []) := by decide +kernel
theorem gX_22 : eG (cn 196 + 22) = (0, 24, []) := by decide +kernel
theorem gX_1 : eG (cn 196 + 1) = (0, 255, []) := by decide +kernel
theorem gX_0 : eG (cn 196 + 0) = ((-2147483648), 2147483647, []) := by decide +kernel
def kyk : eK := (209, (2, [(0, 2, (0, 100000, [197]))], [], []), (0, []), 174870204692798826778782968006592295483621265270343084734820063382041291543589575190889975422721564046423450620144673561870542110624985651915268306019080740800212146085131449682071937554617897035448212252737718471732057281483947886565581677199977666765801926515844368176218214852570829993183196502892216320, [])
def syk : eCc := (141, (2, [(0, 2, (0, 100000, [197]))], [], []), (-1, []))
theorem eyk : ex_to eG eKT eDX 4000 kyk [] syk 37 = true := by decide +kernel
def kzk : eK := (209, (2, [(0, 2, (0, 100000, [197]))], [], []), (0, []), 2808895523222368605827039360607851146278089029597354019897345018089573059460952548948569958162617750330001779372990521213418590137725259726450741103741783193402623334763523207442222181269470220616454421126328215138096104411600982523029892352200425580677351729446660909999175717788745567263052442650378502144, [(some (0, ((-2147483648), 2147483647, [])), [], [])])
theorem ezk : ex_mid eG eKT eDX 4000 kzk kc_58 193 = true := by decide +kernel
theorem Wyk : kk_58.2.2.2.1.testBit (cn 196 + 72) = true ∧ kk_58.2.2.2.1.testBit (cn 196 + 73) = true ∧ kk_58.2.2.2.1.testBit (cn 196 + 74) = true ∧ kk_58.2.2.2.1.testBit (cn 196 + 75) = true ∧ kk_58.2.2.2.1.testBit (cn 196 + 76) = true ∧ kyk.2.2.2.1.testBit (cn 196 + 22) = false ∧ kyk.2.2.2.1.testBit (cn 196 + 23) = false ∧ kyk.2.2.2.1.testBit (cn 196 + 75) = false ∧ kyk.2.2.2.1.testBit (cn 196 + 76) = false ∧ kyk.2.2.2.1.testBit (cn 206) = false ∧ kyk.2.2.2.1.testBit (cn 207) = false ∧ kyk.2.2.2.1.testBit (cn 208) = false ∧ kyk.2.2.2.1.testBit (cn 209) = false ∧ kzk.2.2.2.1.testBit (cn 196 + 22) = false ∧ kzk.2.2.2.1.testBit (cn 196 + 23) = false ∧ kzk.2.2.2.1.testBit (cn 196 + 75) = false ∧ kzk.2.2.2.1.testBit (cn 196 + 76) = false ∧ kzk.2.2.2.1.testBit (cn 249) = false ∧ kzk.2.2.2.1.testBit (cn 250) = false ∧ kzk.2.2.2.1.testBit (cn 251) = false ∧ kzk.2.2.2.1.testBit (cn 252) = false ∧ kk_58.2.2.2.1 &&& eDX = 0 ∧ kyk.2.2.2.1 &&& kk_58.2.2.2.1 = kyk.2.2.2.1 ∧ 2 ^ cn 249 &&& kk_58.2.2.2.1 = 2 ^ cn 249 ∧ 2 ^ cn 250 &&& kk_58.2.2.2.1 = 2 ^ cn 250 ∧ 2 ^ cn 251 &&& kk_58.2.2.2.1 = 2 ^ cn 251 ∧ 2 ^ cn 252 &&& kk_58.2.2.2.1 = 2 ^ cn 252 := by decide +kernel
set_option maxHeartbeats 4000000 in
theorem mk9_run {d : Nat} (hd : 8 ≤ d) (hd2 : d ≤ 1000000) {g : pH} (hG : g_I eG g) (hx : xL g) {P : Option pv × pH → Prop} (hP : ∀ (r : Option pv) (g1 : pH), cpQ 22 206 207 24 75 249 250 g g1 → cpQ 23 208 209 12 76 251 252 g g1 → P (r, g1)) {lv : List (Nat × pv)} (l0 : px_lg lv 0 = some (pvR 196)) : t_X d 209 0 lv [] g P := by
  have hJ : J_ kk_58.2.2.2.1 g g := J_rf hG
  refine t_0 qzk_0 rfl (ld_a l0) ?_
  refine t_0 qzk_1 rfl rfl ?_
  refine tw_z qzk_2 el_196 rfl hJ Wyk.1 gz_72 (by decide) ⟨by omega, by omega⟩ (by omega) (fun g1 hJ1 e1 => ?_)
  have v1_22 : fF g1 22 = fF g 22 := by rw [e1]; exact congrArg Int32.toInt (pr_ne (by decide))
  have v1_23 : fF g1 23 = fF g 23 := by rw [e1]; exact congrArg Int32.toInt (pr_ne (by decide))
  have v1_75 : fF g1 75 = fF g 75 := by rw [e1]; exact congrArg Int32.toInt (pr_ne (by decide))
  have v1_76 : fF g1 76 = fF g 76 := by rw [e1]; exact congrArg Int32.toInt (pr_ne (by decide))
  have u1_206 : fA g1 206 = fA g 206 := by rw [e1]; rfl
  have u1_207 : fA g1 207 = fA g 207 := by rw [e1]; rfl
  have u1_208 : fA g1 208 = fA g 208 := by rw [e1]; rfl
  have u1_209 : fA g1 209 = fA g 209 := by rw [e1]; rfl
  show t_X d 209 5 lv [] g1 P
  refine t_0 qzk_5 rfl (ld_a l0) ?_
  refine t_0 qzk_6 rfl (ld_a l0) ?_
  have r2 := fF_b g1 0
  refine t_0 qzk_7 rfl (pq_gf (y := 0) rfl) ?_
  refine tw_c qzk_10 el_196 rfl hJ1 Wyk.2.1 gX_73 (by decide) ⟨by omega, by omega⟩ (fun g3 hJ3 e3 => ?_)
  have v3_22 : fF g3 22 = fF g1 22 := by rw [e3]; exact congrArg Int32.toInt (pr_ne (by decide))
  have v3_23 : fF g3 23 = fF g1 23 := by rw [e3]; exact congrArg Int32.toInt (pr_ne (by decide))
  have v3_75 : fF g3 75 = fF g1 75 := by rw [e3]; exact congrArg Int32.toInt (pr_ne (by decide))
  have v3_76 : fF g3 76 = fF g1 76 := by rw [e3]; exact congrArg Int32.toInt (pr_ne (by decide))
  have u3_206 : fA g3 206 = fA g1 206 := by rw [e3]; rfl
  have u3_207 : fA g3 207 = fA g1 207 := by rw [e3]; rfl
  have u3_208 : fA g3 208 = fA g1 208 := by rw [e3]; rfl
  have u3_209 : fA g3 209 = fA g1 209 := by rw [e3]; rfl
  show t_X d 209 13 lv [] g3 P
  refine t_0 qzk_13 rfl (ld_a l0) ?_
  refine t_0 qzk_14 rfl (ld_a l0) ?_
  have r4 := gb_f hJ3.1 (y := 1) rfl rfl gf_1
  refine t_0 qzk_15 rfl (pq_gf (y := 1) rfl) ?_
  refine tw_c qzk_18 el_196 rfl hJ3 Wyk.2.2.1 gX_74 (by decide) ⟨by omega, by omega⟩ (fun g5 hJ5 e5 => ?_)
  have v5_22 : fF g5 22 = fF g3 22 := by rw [e5]; exact congrArg Int32.toInt (pr_ne (by decide))
  have v5_23 : fF g5 23 = fF g3 23 := by rw [e5]; exact congrArg Int32.toInt (pr_ne (by decide))
  have v5_75 : fF g5 75 = fF g3 75 := by rw [e5]; exact congrArg Int32.toInt (pr_ne (by decide))
  have v5_76 : fF g5 76 = fF g3 76 := by rw [e5]; exact congrArg Int32.toInt (pr_ne (by decide))
  have u5_206 : fA g5 206 = fA g3 206 := by rw [e5]; rfl
  have u5_207 : fA g5 207 = fA g3 207 := by rw [e5]; rfl
  have u5_208 : fA g5 208 = fA g3 208 := by rw [e5]; rfl
  have u5_209 : fA g5 209 = fA g3 209 := by rw [e5]; rfl
  show t_X d 209 21 lv [] g5 P
  refine t_0 qzk_21 rfl (ld_a l0) ?_
  refine t_0 qzk_22 rfl (ld_a l0) ?_
  have r6 := gb_f hJ5.1 (y := 22) rfl rfl gf_22
  refine t_0 qzk_23 rfl (pq_gf (y := 22) rfl) ?_
  refine tw_c qzk_26 el_196 rfl hJ5 Wyk.2.2.2.1 gX_75 (by decide) ⟨by omega, by omega⟩ (fun g7 hJ7 e7 => ?_)
  have v7_22 : fF g7 22 = fF g5 22 := by rw [e7]; exact congrArg Int32.toInt (pr_ne (by decide))
  have v7_23 : fF g7 23 = fF g5 23 := by rw [e7]; exact congrArg Int32.toInt (pr_ne (by decide))
  have v7_75 : fF g7 75 = fF g5 22 := by rw [e7]; exact pc_at (by omega) (by omega)
  have v7_76 : fF g7 76 = fF g5 76 := by rw [e7]; exact congrArg Int32.toInt (pr_ne (by decide))
  have u7_206 : fA g7 206 = fA g5 206 := by rw [e7]; rfl
  have u7_207 : fA g7 207 = fA g5 207 := by rw [e7]; rfl
  have u7_208 : fA g7 208 = fA g5 208 := by rw [e7]; rfl
  have u7_209 : fA g7 209 = fA g5 209 := by rw [e7]; rfl
  show t_X d 209 29 lv [] g7 P
  refine t_0 qzk_29 rfl (ld_a l0) ?_
  refine t_0 qzk_30 rfl (ld_a l0) ?_
  have r8 := gb_f hJ7.1 (y := 23) rfl rfl gf_23
  refine t_0 qzk_31 rfl (pq_gf (y := 23) rfl) ?_
  refine tw_c qzk_34 el_196 rfl hJ7 Wyk.2.2.2.2.1 gX_76 (by decide) ⟨by omega, by omega⟩ (fun g9 hJ9 e9 => ?_)
  have v9_22 : fF g9 22 = fF g7 22 := by rw [e9]; exact congrArg Int32.toInt (pr_ne (by decide))
  have v9_23 : fF g9 23 = fF g7 23 := by rw [e9]; exact congrArg Int32.toInt (pr_ne (by decide))
  have v9_75 : fF g9 75 = fF g7 75 := by rw [e9]; exact congrArg Int32.toInt (pr_ne (by decide))
  have v9_76 : fF g9 76 = fF g7 23 := by rw [e9]; exact pc_at (by omega) (by omega)
  have u9_206 : fA g9 206 = fA g7 206 := by rw [e9]; rfl
  have u9_207 : fA g9 207 = fA g7 207 := by rw [e9]; rfl
  have u9_208 : fA g9 208 = fA g7 208 := by rw [e9]; rfl
  have u9_209 : fA g9 209 = fA g7 209 := by rw [e9]; rfl
  show t_X d 209 37 lv [] g9 P
  refine to_L (k := kyk) eyk rfl hJ9.1 (xL_K _ _ _ hJ9.2 Wyk.2.2.2.2.2.2.2.2.2.2.2.2.2.2.2.2.2.2.2.2.2.1 hx) (xs := [cv (pvR 196)]) (ys := []) ⟨by show 2 ≤ _; omega, ⟨⟨pvR 196, l0, rfl, rfl, ok_this⟩, trivial⟩, trivial, fun c hc => absurd hc List.not_mem_nil⟩ (by omega) (fun lvA gA xs2 ys2 G2 X2 M2 P2 => ?_)
  have hJA := J_up Wyk.2.2.2.2.2.2.2.2.2.2.2.2.2.2.2.2.2.2.2.2.2.2.1 hJ9 ⟨G2, M2⟩
  clear l0
  obtain ⟨-, L2, -, -⟩ := P2
  obtain ⟨l0, -⟩ := lv_r rfl L2
  show t_X d 209 141 lvA [] gA P
  refine t_0 qzk_141 rfl (ld_a l0) ?_
  refine t_0 qzk_142 rfl (ar_11 hJA.1) ?_
  refine t_0 qzk_145 rfl (ld_a l0) ?_
  refine t_0 qzk_146 rfl (ar_85 hJA.1) ?_
  refine t_0 qzk_149 rfl (pq_b (by decide)) ?_
  refine t_3 qzk_151 rfl (ar := ([pvR 206, pvR 249, oI (24)], [])) (pcal_s ⟨Or.inl rfl, rfl, Nat.le_of_ble_eq_true rfl⟩) ⟨by omega, Nat.le_of_ble_eq_true rfl, Nat.le_of_ble_eq_true rfl, rfl⟩ ?_
  refine cx_run hJA.1 el_206 el_249 (by decide) rfl rfl ga_206 ga_249 (fun gB JB pB oB fB => ?_) rfl rfl rfl
  have hJB := J_up Wyk.2.2.2.2.2.2.2.2.2.2.2.2.2.2.2.2.2.2.2.2.2.2.2.1 hJA JB
  show t_X d 209 154 lvA [] gB P
  refine t_0 qzk_154 rfl (ld_a l0) ?_
  refine t_0 qzk_155 rfl (ar_12 hJB.1) ?_
  refine t_0 qzk_158 rfl (ld_a l0) ?_
  refine t_0 qzk_159 rfl (ar_86 hJB.1) ?_
  refine t_0 qzk_162 rfl (pq_b (by decide)) ?_
  refine t_3 qzk_164 rfl (ar := ([pvR 207, pvR 250, oI (24)], [])) (pcal_s ⟨Or.inl rfl, rfl, Nat.le_of_ble_eq_true rfl⟩) ⟨by omega, Nat.le_of_ble_eq_true rfl, Nat.le_of_ble_eq_true rfl, rfl⟩ ?_
  refine cx_run hJB.1 el_207 el_250 (by decide) rfl rfl ga_207 ga_250 (fun gC JC pC oC fC => ?_) rfl rfl rfl
  have hJC := J_up Wyk.2.2.2.2.2.2.2.2.2.2.2.2.2.2.2.2.2.2.2.2.2.2.2.2.1 hJB JC
  show t_X d 209 167 lvA [] gC P
  refine t_0 qzk_167 rfl (ld_a l0) ?_
  refine t_0 qzk_168 rfl (ar_13 hJC.1) ?_
  refine t_0 qzk_171 rfl (ld_a l0) ?_
  refine t_0 qzk_172 rfl (ar_87 hJC.1) ?_
  refine t_0 qzk_175 rfl (pq_b (by decide)) ?_
  refine t_3 qzk_177 rfl (ar := ([pvR 208, pvR 251, oI (12)], [])) (pcal_s ⟨Or.inl rfl, rfl, Nat.le_of_ble_eq_true rfl⟩) ⟨by omega, Nat.le_of_ble_eq_true rfl, Nat.le_of_ble_eq_true rfl, rfl⟩ ?_
  refine cx_run hJC.1 el_208 el_251 (by decide) rfl rfl ga_208 ga_251 (fun gD JD pD oD fD => ?_) rfl rfl rfl
  have hJD := J_up Wyk.2.2.2.2.2.2.2.2.2.2.2.2.2.2.2.2.2.2.2.2.2.2.2.2.2.1 hJC JD
  show t_X d 209 180 lvA [] gD P
  refine t_0 qzk_180 rfl (ld_a l0) ?_
  refine t_0 qzk_181 rfl (ar_14 hJD.1) ?_
  refine t_0 qzk_184 rfl (ld_a l0) ?_
  refine t_0 qzk_185 rfl (ar_88 hJD.1) ?_
  refine t_0 qzk_188 rfl (pq_b (by decide)) ?_
  refine t_3 qzk_190 rfl (ar := ([pvR 209, pvR 252, oI (12)], [])) (pcal_s ⟨Or.inl rfl, rfl, Nat.le_of_ble_eq_true rfl⟩) ⟨by omega, Nat.le_of_ble_eq_true rfl, Nat.le_of_ble_eq_true rfl, rfl⟩ ?_
  refine cx_run hJD.1 el_209 el_252 (by decide) rfl rfl ga_209 ga_252 (fun gE JE pE oE fE => ?_) rfl rfl rfl
  have hJE := J_up Wyk.2.2.2.2.2.2.2.2.2.2.2.2.2.2.2.2.2.2.2.2.2.2.2.2.2.2 hJD JE
  show t_X d 209 193 lvA [] gE P
  refine mid_L (k := kzk) ezk hJE.1 (xL_K _ _ _ hJE.2 Wyk.2.2.2.2.2.2.2.2.2.2.2.2.2.2.2.2.2.2.2.2.2.1 hx) (xs := [cv (pvR 196)]) (ys := []) ⟨by show 2 ≤ _; omega, ⟨⟨pvR 196, l0, rfl, rfl, ok_this⟩, trivial⟩, trivial, fun c hc => absurd hc List.not_mem_nil⟩ (by omega) (fun o G1 X1 M1 P1 => ?_)
  obtain ⟨o1, gF⟩ := o
  have fFA : ∀ y, fF gE y = fF gA y := fun y => by show (gE.1 196 y).toInt = (gA.1 196 y).toInt; rw [fE, fD, fC, fB]
  exact hP o1 gF ⟨(by rw [fF_M M1 Wyk.2.2.2.2.2.2.2.2.2.2.2.2.2.2.2.1, fFA, fF_M M2 Wyk.2.2.2.2.2.2.2.1]; simp only [v9_75, v9_22, v7_75, v7_22, v5_75, v5_22, v3_75, v3_22, v1_75, v1_22]), fun j hj => ⟨(by rw [fA_M M1 Wyk.2.2.2.2.2.2.2.2.2.2.2.2.2.2.2.2.2.1, oE 249 (by decide), oD 249 (by decide), oC 249 (by decide), pB j (by omega), fA_M M2 Wyk.2.2.2.2.2.2.2.2.2.1, u9_206, u7_206, u5_206, u3_206, u1_206]), (by rw [fA_M M1 Wyk.2.2.2.2.2.2.2.2.2.2.2.2.2.2.2.2.2.2.1, oE 250 (by decide), oD 250 (by decide), pC j (by omega), oB 207 (by decide), fA_M M2 Wyk.2.2.2.2.2.2.2.2.2.2.1, u9_207, u7_207, u5_207, u3_207, u1_207])⟩⟩ ⟨(by rw [fF_M M1 Wyk.2.2.2.2.2.2.2.2.2.2.2.2.2.2.2.2.1, fFA, fF_M M2 Wyk.2.2.2.2.2.2.2.2.1]; simp only [v9_76, v9_23, v7_76, v7_23, v5_76, v5_23, v3_76, v3_23, v1_76, v1_23]), fun j hj => ⟨(by rw [fA_M M1 Wyk.2.2.2.2.2.2.2.2.2.2.2.2.2.2.2.2.2.2.2.1, oE 251 (by decide), pD j (by omega), oC 208 (by decide), oB 208 (by decide), fA_M M2 Wyk.2.2.2.2.2.2.2.2.2.2.2.1, u9_208, u7_208, u5_208, u3_208, u1_208]), (by rw [fA_M M1 Wyk.2.2.2.2.2.2.2.2.2.2.2.2.2.2.2.2.2.2.2.2.1, pE j (by omega), oD 209 (by decide), oC 209 (by decide), oB 209 (by decide), fA_M M2 Wyk.2.2.2.2.2.2.2.2.2.2.2.2.1, u9_209, u7_209, u5_209, u3_209, u1_209])⟩⟩
def kyu : eK := (270, (2, [(0, 2, (0, 100000, [197]))], [], []), (0, []), 19841459327210398127599486541713883400943997882063435324703057546885563534400443544619992274135772887782720809447148048421522869845553499478832782135292562362165681397111379088816927738577749228046299972323688619386823877376103965389539596321094813987717276203120309085858603009223537129947136, [])
def syu : eCc := (145, (2, [(0, 2, (0, 100000, [197]))], [], []), (-1, []))
theorem eyu : ex_to eG eKT eDX 4000 kyu [] syu 41 = true := by decide +kernel
def kzu : eK := (270, (2, [(0, 2, (0, 100000, [197]))], [], []), (0, []), 319334449525555169865019634085894170570792201669673206640407558789953902699034250525593274478821712174294791495070799239035590078142974985718267487725573027251200907672173708242806035431098077949224537079127027838932929672819339262222216842951687065201139345100120966662777359236855041588461568, [(some (0, ((-2147483648), 2147483647, [])), [], [])])
theorem ezu : ex_mid eG eKT eDX 4000 kzu kc_60 197 = true := by decide +kernel
theorem Wyu : kk_60.2.2.2.1.testBit (cn 196 + 0) = true ∧ kk_60.2.2.2.1.testBit (cn 196 + 1) = true ∧ kk_60.2.2.2.1.testBit (cn 196 + 22) = true ∧ kk_60.2.2.2.1.testBit (cn 196 + 23) = true ∧ kyu.2.2.2.1.testBit (cn 196 + 22) = false ∧ kyu.2.2.2.1.testBit (cn 196 + 23) = false ∧ kyu.2.2.2.1.testBit (cn 196 + 75) = false ∧ kyu.2.2.2.1.testBit (cn 196 + 76) = false ∧ kyu.2.2.2.1.testBit (cn 249) = false ∧ kyu.2.2.2.1.testBit (cn 250) = false ∧ kyu.2.2.2.1.testBit (cn 251) = false ∧ kyu.2.2.2.1.testBit (cn 252) = false ∧ kzu.2.2.2.1.testBit (cn 196 + 22) = false ∧ kzu.2.2.2.1.testBit (cn 196 + 23) = false ∧ kzu.2.2.2.1.testBit (cn 196 + 75) = false ∧ kzu.2.2.2.1.testBit (cn 196 + 76) = false ∧ kzu.2.2.2.1.testBit (cn 206) = false ∧ kzu.2.2.2.1.testBit (cn 207) = false ∧ kzu.2.2.2.1.testBit (cn 208) = false ∧ kzu.2.2.2.1.testBit (cn 209) = false ∧ kk_60.2.2.2.1 &&& eDX = 0 ∧ kyu.2.2.2.1 &&& kk_60.2.2.2.1 = kyu.2.2.2.1 ∧ 2 ^ cn 206 &&& kk_60.2.2.2.1 = 2 ^ cn 206 ∧ 2 ^ cn 207 &&& kk_60.2.2.2.1 = 2 ^ cn 207 ∧ 2 ^ cn 208 &&& kk_60.2.2.2.1 = 2 ^ cn 208 ∧ 2 ^ cn 209 &&& kk_60.2.2.2.1 = 2 ^ cn 209 := by decide +kernel
set_option maxHeartbeats 4000000 in
theorem mu9_run {d : Nat} (hd : 8 ≤ d) (hd2 : d ≤ 1000000) {g : pH} (hG : g_I eG g) (hx : xL g) {P : Option pv × pH → Prop} (hA : cF g 196 72 ≠ 0 → ∀ (r : Option pv) (g1 : pH), cpQ 75 249 250 24 22 206 207 g g1 → cpQ 76 251 252 12 23 208 209 g g1 → P (r, g1)) (hR : cF g 196 72 = 0 → P (some (oI 0), g)) {lv : List (Nat × pv)} (l0 : px_lg lv 0 = some (pvR 196)) : t_X d 270 0 lv [] g P := by
  have hJ : J_ kk_60.2.2.2.1 g g := J_rf hG
  refine t_0 qzu_0 rfl (ld_a l0) ?_
  have r1 : 0 ≤ fF g 72 ∧ fF g 72 ≤ 1 := cb_z hJ.1 el_196 (Nat.le_of_ble_eq_true rfl) rfl gz_72
  refine t_0 qzu_1 rfl (pq_cz (y := 72) el_196 rfl) ?_
  show t_X d 270 4 lv [oI (fF g 72)] g P
  refine tz_ne qzu_4 (by decide) ⟨by omega, by omega⟩ (fun c2 => ?_) (fun c2 => ?_)
  · show t_X d 270 9 lv [] g P
    refine t_0 qzu_9 rfl (ld_a l0) ?_
    refine t_0 qzu_10 rfl (ld_a l0) ?_
    have r3 := fF_b g 73
    refine t_0 qzu_11 rfl (pq_gf (y := 73) rfl) ?_
    refine tw_c qzu_14 el_196 rfl hJ Wyu.1 gX_0 (by decide) ⟨by omega, by omega⟩ (fun g4 hJ4 e4 => ?_)
    have v4_22 : fF g4 22 = fF g 22 := by rw [e4]; exact congrArg Int32.toInt (pr_ne (by decide))
    have v4_23 : fF g4 23 = fF g 23 := by rw [e4]; exact congrArg Int32.toInt (pr_ne (by decide))
    have v4_75 : fF g4 75 = fF g 75 := by rw [e4]; exact congrArg Int32.toInt (pr_ne (by decide))
    have v4_76 : fF g4 76 = fF g 76 := by rw [e4]; exact congrArg Int32.toInt (pr_ne (by decide))
    have u4_249 : fA g4 249 = fA g 249 := by rw [e4]; rfl
    have u4_250 : fA g4 250 = fA g 250 := by rw [e4]; rfl
    have u4_251 : fA g4 251 = fA g 251 := by rw [e4]; rfl
    have u4_252 : fA g4 252 = fA g 252 := by rw [e4]; rfl
    show t_X d 270 17 lv [] g4 P
    refine t_0 qzu_17 rfl (ld_a l0) ?_
    refine t_0 qzu_18 rfl (ld_a l0) ?_
    have r5 := gb_f hJ4.1 (y := 74) rfl rfl gf_74
    refine t_0 qzu_19 rfl (pq_gf (y := 74) rfl) ?_
    refine tw_c qzu_22 el_196 rfl hJ4 Wyu.2.1 gX_1 (by decide) ⟨by omega, by omega⟩ (fun g6 hJ6 e6 => ?_)
    have v6_22 : fF g6 22 = fF g4 22 := by rw [e6]; exact congrArg Int32.toInt (pr_ne (by decide))
    have v6_23 : fF g6 23 = fF g4 23 := by rw [e6]; exact congrArg Int32.toInt (pr_ne (by decide))
    have v6_75 : fF g6 75 = fF g4 75 := by rw [e6]; exact congrArg Int32.toInt (pr_ne (by decide))
    have v6_76 : fF g6 76 = fF g4 76 := by rw [e6]; exact congrArg Int32.toInt (pr_ne (by decide))
    have u6_249 : fA g6 249 = fA g4 249 := by rw [e6]; rfl
    have u6_250 : fA g6 250 = fA g4 250 := by rw [e6]; rfl
    have u6_251 : fA g6 251 = fA g4 251 := by rw [e6]; rfl
    have u6_252 : fA g6 252 = fA g4 252 := by rw [e6]; rfl
    show t_X d 270 25 lv [] g6 P
    refine t_0 qzu_25 rfl (ld_a l0) ?_
    refine t_0 qzu_26 rfl (ld_a l0) ?_
    have r7 := gb_f hJ6.1 (y := 75) rfl rfl gf_75
    refine t_0 qzu_27 rfl (pq_gf (y := 75) rfl) ?_
    refine tw_c qzu_30 el_196 rfl hJ6 Wyu.2.2.1 gX_22 (by decide) ⟨by omega, by omega⟩ (fun g8 hJ8 e8 => ?_)
    have v8_22 : fF g8 22 = fF g6 75 := by rw [e8]; exact pc_at (by omega) (by omega)
    have v8_23 : fF g8 23 = fF g6 23 := by rw [e8]; exact congrArg Int32.toInt (pr_ne (by decide))
    have v8_75 : fF g8 75 = fF g6 75 := by rw [e8]; exact congrArg Int32.toInt (pr_ne (by decide))
    have v8_76 : fF g8 76 = fF g6 76 := by rw [e8]; exact congrArg Int32.toInt (pr_ne (by decide))
    have u8_249 : fA g8 249 = fA g6 249 := by rw [e8]; rfl
    have u8_250 : fA g8 250 = fA g6 250 := by rw [e8]; rfl
    have u8_251 : fA g8 251 = fA g6 251 := by rw [e8]; rfl
    have u8_252 : fA g8 252 = fA g6 252 := by rw [e8]; rfl
    show t_X d 270 33 lv [] g8 P
    refine t_0 qzu_33 rfl (ld_a l0) ?_
    refine t_0 qzu_34 rfl (ld_a l0) ?_
    have r9 := gb_f hJ8.1 (y := 76) rfl rfl gf_76
    refine t_0 qzu_35 rfl (pq_gf (y := 76) rfl) ?_
    refine tw_c qzu_38 el_196 rfl hJ8 Wyu.2.2.2.1 gX_23 (by decide) ⟨by omega, by omega⟩ (fun g10 hJ10 e10 => ?_)
    have v10_22 : fF g10 22 = fF g8 22 := by rw [e10]; exact congrArg Int32.toInt (pr_ne (by decide))
    have v10_23 : fF g10 23 = fF g8 76 := by rw [e10]; exact pc_at (by omega) (by omega)
    have v10_75 : fF g10 75 = fF g8 75 := by rw [e10]; exact congrArg Int32.toInt (pr_ne (by decide))
    have v10_76 : fF g10 76 = fF g8 76 := by rw [e10]; exact congrArg Int32.toInt (pr_ne (by decide))
    have u10_249 : fA g10 249 = fA g8 249 := by rw [e10]; rfl
    have u10_250 : fA g10 250 = fA g8 250 := by rw [e10]; rfl
    have u10_251 : fA g10 251 = fA g8 251 := by rw [e10]; rfl
    have u10_252 : fA g10 252 = fA g8 252 := by rw [e10]; rfl
    show t_X d 270 41 lv [] g10 P
    refine to_L (k := kyu) eyu rfl hJ10.1 (xL_K _ _ _ hJ10.2 Wyu.2.2.2.2.2.2.2.2.2.2.2.2.2.2.2.2.2.2.2.2.1 hx) (xs := [cv (pvR 196)]) (ys := []) ⟨by show 2 ≤ _; omega, ⟨⟨pvR 196, l0, rfl, rfl, ok_this⟩, trivial⟩, trivial, fun c hc => absurd hc List.not_mem_nil⟩ (by omega) (fun lvA gA xs2 ys2 G2 X2 M2 P2 => ?_)
    have hJA := J_up Wyu.2.2.2.2.2.2.2.2.2.2.2.2.2.2.2.2.2.2.2.2.2.1 hJ10 ⟨G2, M2⟩
    clear l0
    obtain ⟨-, L2, -, -⟩ := P2
    obtain ⟨l0, -⟩ := lv_r rfl L2
    show t_X d 270 145 lvA [] gA P
    refine t_0 qzu_145 rfl (ld_a l0) ?_
    refine t_0 qzu_146 rfl (ar_85 hJA.1) ?_
    refine t_0 qzu_149 rfl (ld_a l0) ?_
    refine t_0 qzu_150 rfl (ar_11 hJA.1) ?_
    refine t_0 qzu_153 rfl (pq_b (by decide)) ?_
    refine t_3 qzu_155 rfl (ar := ([pvR 249, pvR 206, oI (24)], [])) (pcal_s ⟨Or.inl rfl, rfl, Nat.le_of_ble_eq_true rfl⟩) ⟨by omega, Nat.le_of_ble_eq_true rfl, Nat.le_of_ble_eq_true rfl, rfl⟩ ?_
    refine cx_run hJA.1 el_249 el_206 (by decide) rfl rfl ga_249 ga_206 (fun gB JB pB oB fB => ?_) rfl rfl rfl
    have hJB := J_up Wyu.2.2.2.2.2.2.2.2.2.2.2.2.2.2.2.2.2.2.2.2.2.2.1 hJA JB
    show t_X d 270 158 lvA [] gB P
    refine t_0 qzu_158 rfl (ld_a l0) ?_
    refine t_0 qzu_159 rfl (ar_86 hJB.1) ?_
    refine t_0 qzu_162 rfl (ld_a l0) ?_
    refine t_0 qzu_163 rfl (ar_12 hJB.1) ?_
    refine t_0 qzu_166 rfl (pq_b (by decide)) ?_
    refine t_3 qzu_168 rfl (ar := ([pvR 250, pvR 207, oI (24)], [])) (pcal_s ⟨Or.inl rfl, rfl, Nat.le_of_ble_eq_true rfl⟩) ⟨by omega, Nat.le_of_ble_eq_true rfl, Nat.le_of_ble_eq_true rfl, rfl⟩ ?_
    refine cx_run hJB.1 el_250 el_207 (by decide) rfl rfl ga_250 ga_207 (fun gC JC pC oC fC => ?_) rfl rfl rfl
    have hJC := J_up Wyu.2.2.2.2.2.2.2.2.2.2.2.2.2.2.2.2.2.2.2.2.2.2.2.1 hJB JC
    show t_X d 270 171 lvA [] gC P
    refine t_0 qzu_171 rfl (ld_a l0) ?_
    refine t_0 qzu_172 rfl (ar_87 hJC.1) ?_
    refine t_0 qzu_175 rfl (ld_a l0) ?_
    refine t_0 qzu_176 rfl (ar_13 hJC.1) ?_
    refine t_0 qzu_179 rfl (pq_b (by decide)) ?_
    refine t_3 qzu_181 rfl (ar := ([pvR 251, pvR 208, oI (12)], [])) (pcal_s ⟨Or.inl rfl, rfl, Nat.le_of_ble_eq_true rfl⟩) ⟨by omega, Nat.le_of_ble_eq_true rfl, Nat.le_of_ble_eq_true rfl, rfl⟩ ?_
    refine cx_run hJC.1 el_251 el_208 (by decide) rfl rfl ga_251 ga_208 (fun gD JD pD oD fD => ?_) rfl rfl rfl
    have hJD := J_up Wyu.2.2.2.2.2.2.2.2.2.2.2.2.2.2.2.2.2.2.2.2.2.2.2.2.1 hJC JD
    show t_X d 270 184 lvA [] gD P
    refine t_0 qzu_184 rfl (ld_a l0) ?_
    refine t_0 qzu_185 rfl (ar_88 hJD.1) ?_
    refine t_0 qzu_188 rfl (ld_a l0) ?_
    refine t_0 qzu_189 rfl (ar_14 hJD.1) ?_
    refine t_0 qzu_192 rfl (pq_b (by decide)) ?_
    refine t_3 qzu_194 rfl (ar := ([pvR 252, pvR 209, oI (12)], [])) (pcal_s ⟨Or.inl rfl, rfl, Nat.le_of_ble_eq_true rfl⟩) ⟨by omega, Nat.le_of_ble_eq_true rfl, Nat.le_of_ble_eq_true rfl, rfl⟩ ?_
    refine cx_run hJD.1 el_252 el_209 (by decide) rfl rfl ga_252 ga_209 (fun gE JE pE oE fE => ?_) rfl rfl rfl
    have hJE := J_up Wyu.2.2.2.2.2.2.2.2.2.2.2.2.2.2.2.2.2.2.2.2.2.2.2.2.2 hJD JE
    show t_X d 270 197 lvA [] gE P
    refine mid_L (k := kzu) ezu hJE.1 (xL_K _ _ _ hJE.2 Wyu.2.2.2.2.2.2.2.2.2.2.2.2.2.2.2.2.2.2.2.2.1 hx) (xs := [cv (pvR 196)]) (ys := []) ⟨by show 2 ≤ _; omega, ⟨⟨pvR 196, l0, rfl, rfl, ok_this⟩, trivial⟩, trivial, fun c hc => absurd hc List.not_mem_nil⟩ (by omega) (fun o G1 X1 M1 P1 => ?_)
    obtain ⟨o1, gF⟩ := o
    have fFA : ∀ y, fF gE y = fF gA y := fun y => by show (gE.1 196 y).toInt = (gA.1 196 y).toInt; rw [fE, fD, fC, fB]
    exact hA (fun z => by have z2 : fF g 72 = 0 := z; omega) o1 gF ⟨(by rw [fF_M M1 Wyu.2.2.2.2.2.2.2.2.2.2.2.2.1, fFA, fF_M M2 Wyu.2.2.2.2.1]; simp only [v10_22, v10_75, v8_22, v8_75, v6_22, v6_75, v4_22, v4_75]), fun j hj => ⟨(by rw [fA_M M1 Wyu.2.2.2.2.2.2.2.2.2.2.2.2.2.2.2.2.1, oE 206 (by decide), oD 206 (by decide), oC 206 (by decide), pB j (by omega), fA_M M2 Wyu.2.2.2.2.2.2.2.2.1, u10_249, u8_249, u6_249, u4_249]), (by rw [fA_M M1 Wyu.2.2.2.2.2.2.2.2.2.2.2.2.2.2.2.2.2.1, oE 207 (by decide), oD 207 (by decide), pC j (by omega), oB 250 (by decide), fA_M M2 Wyu.2.2.2.2.2.2.2.2.2.1, u10_250, u8_250, u6_250, u4_250])⟩⟩ ⟨(by rw [fF_M M1 Wyu.2.2.2.2.2.2.2.2.2.2.2.2.2.1, fFA, fF_M M2 Wyu.2.2.2.2.2.1]; simp only [v10_23, v10_76, v8_23, v8_76, v6_23, v6_76, v4_23, v4_76]), fun j hj => ⟨(by rw [fA_M M1 Wyu.2.2.2.2.2.2.2.2.2.2.2.2.2.2.2.2.2.2.1, oE 208 (by decide), pD j (by omega), oC 251 (by decide), oB 251 (by decide), fA_M M2 Wyu.2.2.2.2.2.2.2.2.2.2.1, u10_251, u8_251, u6_251, u4_251]), (by rw [fA_M M1 Wyu.2.2.2.2.2.2.2.2.2.2.2.2.2.2.2.2.2.2.2.1, pE j (by omega), oD 252 (by decide), oC 252 (by decide), oB 252 (by decide), fA_M M2 Wyu.2.2.2.2.2.2.2.2.2.2.2.1, u10_252, u8_252, u6_252, u4_252])⟩⟩
  · show t_X d 270 7 lv [] g P
    refine t_0 qzu_7 rfl rfl ?_
    refine t_5 qzu_8 rfl rfl ?_
    exact hR (by show fF g 72 = 0; omega)
end
