/-! the tie: rows of twos (printed by wip/e2/t14.py) -/
theorem qacl_0 : xe_look (xc 69) 0 = some (.aload_n 0, 1, 0, 0, 0) := by decide +kernel
theorem qacl_1 : xe_look (xc 69) 1 = some (.getfield 24, 3, 6, 2, 903) := by decide +kernel
theorem qacl_4 : xe_look (xc 69) 4 = some (.aload_n 0, 1, 0, 0, 0) := by decide +kernel
theorem qacl_5 : xe_look (xc 69) 5 = some (.getfield 15, 3, 6, 0, 904) := by decide +kernel
theorem qacl_8 : xe_look (xc 69) 8 = some (.arraylength, 1, 0, 0, 0) := by decide +kernel
theorem qacl_9 : xe_look (xc 69) 9 = some (.if_icmp .lt 5, 3, 0, 0, 0) := by decide +kernel
theorem qacl_12 : xe_look (xc 69) 12 = some (.iconst (-1), 1, 0, 0, 0) := by decide +kernel
theorem qacl_13 : xe_look (xc 69) 13 = some (.ireturn, 1, 0, 0, 0) := by decide +kernel
theorem qacl_14 : xe_look (xc 69) 14 = some (.aload_n 0, 1, 0, 0, 0) := by decide +kernel
theorem qacl_15 : xe_look (xc 69) 15 = some (.getfield 15, 3, 6, 0, 904) := by decide +kernel
theorem qacl_18 : xe_look (xc 69) 18 = some (.aload_n 0, 1, 0, 0, 0) := by decide +kernel
theorem qacl_19 : xe_look (xc 69) 19 = some (.getfield 24, 3, 6, 2, 903) := by decide +kernel
theorem qacl_22 : xe_look (xc 69) 22 = some (.iload_n 1, 1, 0, 0, 0) := by decide +kernel
theorem qacl_23 : xe_look (xc 69) 23 = some (.iastore, 1, 0, 0, 0) := by decide +kernel
theorem qacl_24 : xe_look (xc 69) 24 = some (.aload_n 0, 1, 0, 0, 0) := by decide +kernel
theorem qacl_25 : xe_look (xc 69) 25 = some (.getfield 21, 3, 6, 1, 905) := by decide +kernel
theorem qacl_28 : xe_look (xc 69) 28 = some (.aload_n 0, 1, 0, 0, 0) := by decide +kernel
theorem qacl_29 : xe_look (xc 69) 29 = some (.getfield 24, 3, 6, 2, 903) := by decide +kernel
theorem qacl_32 : xe_look (xc 69) 32 = some (.iload_n 2, 1, 0, 0, 0) := by decide +kernel
theorem qacl_33 : xe_look (xc 69) 33 = some (.iastore, 1, 0, 0, 0) := by decide +kernel
theorem qacl_34 : xe_look (xc 69) 34 = some (.aload_n 0, 1, 0, 0, 0) := by decide +kernel
theorem qacl_35 : xe_look (xc 69) 35 = some (.dup, 1, 0, 0, 0) := by decide +kernel
theorem qacl_36 : xe_look (xc 69) 36 = some (.getfield 24, 3, 6, 2, 903) := by decide +kernel
theorem qacl_39 : xe_look (xc 69) 39 = some (.iconst 1, 1, 0, 0, 0) := by decide +kernel
theorem qacl_40 : xe_look (xc 69) 40 = some (.iadd, 1, 0, 0, 0) := by decide +kernel
theorem qacl_41 : xe_look (xc 69) 41 = some (.putfield 24, 3, 6, 2, 903) := by decide +kernel
theorem qacl_44 : xe_look (xc 69) 44 = some (.aload_n 0, 1, 0, 0, 0) := by decide +kernel
theorem qacl_45 : xe_look (xc 69) 45 = some (.getfield 24, 3, 6, 2, 903) := by decide +kernel
theorem qacl_48 : xe_look (xc 69) 48 = some (.ireturn, 1, 0, 0, 0) := by decide +kernel
theorem qali_0 : xe_look (xc 69) 0 = some (.aload_n 0, 1, 0, 0, 0) := by decide +kernel
theorem qali_1 : xe_look (xc 69) 1 = some (.getfield 24, 3, 6, 2, 903) := by decide +kernel
theorem qali_4 : xe_look (xc 69) 4 = some (.aload_n 0, 1, 0, 0, 0) := by decide +kernel
theorem qali_5 : xe_look (xc 69) 5 = some (.getfield 15, 3, 6, 0, 904) := by decide +kernel
theorem qali_8 : xe_look (xc 69) 8 = some (.arraylength, 1, 0, 0, 0) := by decide +kernel
theorem qali_9 : xe_look (xc 69) 9 = some (.if_icmp .lt 5, 3, 0, 0, 0) := by decide +kernel
theorem qali_12 : xe_look (xc 69) 12 = some (.iconst (-1), 1, 0, 0, 0) := by decide +kernel
theorem qali_13 : xe_look (xc 69) 13 = some (.ireturn, 1, 0, 0, 0) := by decide +kernel
theorem qali_14 : xe_look (xc 69) 14 = some (.aload_n 0, 1, 0, 0, 0) := by decide +kernel
theorem qali_15 : xe_look (xc 69) 15 = some (.getfield 15, 3, 6, 0, 904) := by decide +kernel
theorem qali_18 : xe_look (xc 69) 18 = some (.aload_n 0, 1, 0, 0, 0) := by decide +kernel
theorem qali_19 : xe_look (xc 69) 19 = some (.getfield 24, 3, 6, 2, 903) := by decide +kernel
theorem qali_22 : xe_look (xc 69) 22 = some (.iload_n 1, 1, 0, 0, 0) := by decide +kernel
theorem qali_23 : xe_look (xc 69) 23 = some (.iastore, 1, 0, 0, 0) := by decide +kernel
theorem qali_24 : xe_look (xc 69) 24 = some (.aload_n 0, 1, 0, 0, 0) := by decide +kernel
theorem qali_25 : xe_look (xc 69) 25 = some (.getfield 21, 3, 6, 1, 905) := by decide +kernel
theorem qali_28 : xe_look (xc 69) 28 = some (.aload_n 0, 1, 0, 0, 0) := by decide +kernel
theorem qali_29 : xe_look (xc 69) 29 = some (.getfield 24, 3, 6, 2, 903) := by decide +kernel
theorem qali_32 : xe_look (xc 69) 32 = some (.iload_n 2, 1, 0, 0, 0) := by decide +kernel
theorem qali_33 : xe_look (xc 69) 33 = some (.iastore, 1, 0, 0, 0) := by decide +kernel
theorem qali_34 : xe_look (xc 69) 34 = some (.aload_n 0, 1, 0, 0, 0) := by decide +kernel
theorem qali_35 : xe_look (xc 69) 35 = some (.dup, 1, 0, 0, 0) := by decide +kernel
theorem qali_36 : xe_look (xc 69) 36 = some (.getfield 24, 3, 6, 2, 903) := by decide +kernel
theorem qali_39 : xe_look (xc 69) 39 = some (.iconst 1, 1, 0, 0, 0) := by decide +kernel
theorem qali_40 : xe_look (xc 69) 40 = some (.iadd, 1, 0, 0, 0) := by decide +kernel
theorem qali_41 : xe_look (xc 69) 41 = some (.putfield 24, 3, 6, 2, 903) := by decide +kernel
theorem qali_44 : xe_look (xc 69) 44 = some (.aload_n 0, 1, 0, 0, 0) := by decide +kernel
theorem qali_45 : xe_look (xc 69) 45 = some (.getfield 24, 3, 6, 2, 903) := by decide +kernel
theorem qali_48 : xe_look (xc 69) 48 = some (.ireturn, 1, 0, 0, 0) := by decide +kernel
theorem qdcl_0 : xe_look (xc 71) 0 = some (.iconst 0, 1, 0, 0, 0) := by decide +kernel
theorem qdcl_1 : xe_look (xc 71) 1 = some (.istore_n 2, 1, 0, 0, 0) := by decide +kernel
theorem qdcl_2 : xe_look (xc 71) 2 = some (.iconst 0, 1, 0, 0, 0) := by decide +kernel
theorem qdcl_3 : xe_look (xc 71) 3 = some (.istore_n 3, 1, 0, 0, 0) := by decide +kernel
theorem qdcl_4 : xe_look (xc 71) 4 = some (.iload_n 3, 1, 0, 0, 0) := by decide +kernel
theorem qdcl_5 : xe_look (xc 71) 5 = some (.aload_n 0, 1, 0, 0, 0) := by decide +kernel
theorem qdcl_6 : xe_look (xc 71) 6 = some (.getfield 24, 3, 6, 2, 903) := by decide +kernel
theorem qdcl_9 : xe_look (xc 71) 9 = some (.if_icmp .ge 56, 3, 0, 0, 0) := by decide +kernel
theorem qdcl_12 : xe_look (xc 71) 12 = some (.aload_n 0, 1, 0, 0, 0) := by decide +kernel
theorem qdcl_13 : xe_look (xc 71) 13 = some (.getfield 15, 3, 6, 0, 904) := by decide +kernel
theorem qdcl_16 : xe_look (xc 71) 16 = some (.iload_n 3, 1, 0, 0, 0) := by decide +kernel
theorem qdcl_17 : xe_look (xc 71) 17 = some (.iaload, 1, 0, 0, 0) := by decide +kernel
theorem qdcl_18 : xe_look (xc 71) 18 = some (.iload_n 1, 1, 0, 0, 0) := by decide +kernel
theorem qdcl_19 : xe_look (xc 71) 19 = some (.if_icmp .eq 40, 3, 0, 0, 0) := by decide +kernel
theorem qdcl_22 : xe_look (xc 71) 22 = some (.aload_n 0, 1, 0, 0, 0) := by decide +kernel
theorem qdcl_23 : xe_look (xc 71) 23 = some (.getfield 21, 3, 6, 1, 905) := by decide +kernel
theorem qdcl_26 : xe_look (xc 71) 26 = some (.iload_n 3, 1, 0, 0, 0) := by decide +kernel
theorem qdcl_27 : xe_look (xc 71) 27 = some (.iaload, 1, 0, 0, 0) := by decide +kernel
theorem qdcl_28 : xe_look (xc 71) 28 = some (.iload_n 1, 1, 0, 0, 0) := by decide +kernel
theorem qdcl_29 : xe_look (xc 71) 29 = some (.if_icmp .eq 30, 3, 0, 0, 0) := by decide +kernel
theorem qdcl_32 : xe_look (xc 71) 32 = some (.aload_n 0, 1, 0, 0, 0) := by decide +kernel
theorem qdcl_33 : xe_look (xc 71) 33 = some (.getfield 15, 3, 6, 0, 904) := by decide +kernel
theorem qdcl_36 : xe_look (xc 71) 36 = some (.iload_n 2, 1, 0, 0, 0) := by decide +kernel
theorem qdcl_37 : xe_look (xc 71) 37 = some (.aload_n 0, 1, 0, 0, 0) := by decide +kernel
theorem qdcl_38 : xe_look (xc 71) 38 = some (.getfield 15, 3, 6, 0, 904) := by decide +kernel
theorem qdcl_41 : xe_look (xc 71) 41 = some (.iload_n 3, 1, 0, 0, 0) := by decide +kernel
theorem qdcl_42 : xe_look (xc 71) 42 = some (.iaload, 1, 0, 0, 0) := by decide +kernel
theorem qdcl_43 : xe_look (xc 71) 43 = some (.iastore, 1, 0, 0, 0) := by decide +kernel
theorem qdcl_44 : xe_look (xc 71) 44 = some (.aload_n 0, 1, 0, 0, 0) := by decide +kernel
theorem qdcl_45 : xe_look (xc 71) 45 = some (.getfield 21, 3, 6, 1, 905) := by decide +kernel
theorem qdcl_48 : xe_look (xc 71) 48 = some (.iload_n 2, 1, 0, 0, 0) := by decide +kernel
theorem qdcl_49 : xe_look (xc 71) 49 = some (.aload_n 0, 1, 0, 0, 0) := by decide +kernel
theorem qdcl_50 : xe_look (xc 71) 50 = some (.getfield 21, 3, 6, 1, 905) := by decide +kernel
theorem qdcl_53 : xe_look (xc 71) 53 = some (.iload_n 3, 1, 0, 0, 0) := by decide +kernel
theorem qdcl_54 : xe_look (xc 71) 54 = some (.iaload, 1, 0, 0, 0) := by decide +kernel
theorem qdcl_55 : xe_look (xc 71) 55 = some (.iastore, 1, 0, 0, 0) := by decide +kernel
theorem qdcl_56 : xe_look (xc 71) 56 = some (.iinc 2 1, 3, 0, 0, 0) := by decide +kernel
theorem qdcl_59 : xe_look (xc 71) 59 = some (.iinc 3 1, 3, 0, 0, 0) := by decide +kernel
theorem qdcl_62 : xe_look (xc 71) 62 = some (.goto (-58), 3, 0, 0, 0) := by decide +kernel
theorem qdcl_65 : xe_look (xc 71) 65 = some (.aload_n 0, 1, 0, 0, 0) := by decide +kernel
theorem qdcl_66 : xe_look (xc 71) 66 = some (.iload_n 2, 1, 0, 0, 0) := by decide +kernel
theorem qdcl_67 : xe_look (xc 71) 67 = some (.putfield 24, 3, 6, 2, 903) := by decide +kernel
theorem qdcl_70 : xe_look (xc 71) 70 = some (.return_, 1, 0, 0, 0) := by decide +kernel
theorem qdli_0 : xe_look (xc 71) 0 = some (.iconst 0, 1, 0, 0, 0) := by decide +kernel
theorem qdli_1 : xe_look (xc 71) 1 = some (.istore_n 2, 1, 0, 0, 0) := by decide +kernel
theorem qdli_2 : xe_look (xc 71) 2 = some (.iconst 0, 1, 0, 0, 0) := by decide +kernel
theorem qdli_3 : xe_look (xc 71) 3 = some (.istore_n 3, 1, 0, 0, 0) := by decide +kernel
theorem qdli_4 : xe_look (xc 71) 4 = some (.iload_n 3, 1, 0, 0, 0) := by decide +kernel
theorem qdli_5 : xe_look (xc 71) 5 = some (.aload_n 0, 1, 0, 0, 0) := by decide +kernel
theorem qdli_6 : xe_look (xc 71) 6 = some (.getfield 24, 3, 6, 2, 903) := by decide +kernel
theorem qdli_9 : xe_look (xc 71) 9 = some (.if_icmp .ge 56, 3, 0, 0, 0) := by decide +kernel
theorem qdli_12 : xe_look (xc 71) 12 = some (.aload_n 0, 1, 0, 0, 0) := by decide +kernel
theorem qdli_13 : xe_look (xc 71) 13 = some (.getfield 15, 3, 6, 0, 904) := by decide +kernel
theorem qdli_16 : xe_look (xc 71) 16 = some (.iload_n 3, 1, 0, 0, 0) := by decide +kernel
theorem qdli_17 : xe_look (xc 71) 17 = some (.iaload, 1, 0, 0, 0) := by decide +kernel
theorem qdli_18 : xe_look (xc 71) 18 = some (.iload_n 1, 1, 0, 0, 0) := by decide +kernel
theorem qdli_19 : xe_look (xc 71) 19 = some (.if_icmp .eq 40, 3, 0, 0, 0) := by decide +kernel
theorem qdli_22 : xe_look (xc 71) 22 = some (.aload_n 0, 1, 0, 0, 0) := by decide +kernel
theorem qdli_23 : xe_look (xc 71) 23 = some (.getfield 21, 3, 6, 1, 905) := by decide +kernel
theorem qdli_26 : xe_look (xc 71) 26 = some (.iload_n 3, 1, 0, 0, 0) := by decide +kernel
theorem qdli_27 : xe_look (xc 71) 27 = some (.iaload, 1, 0, 0, 0) := by decide +kernel
theorem qdli_28 : xe_look (xc 71) 28 = some (.iload_n 1, 1, 0, 0, 0) := by decide +kernel
theorem qdli_29 : xe_look (xc 71) 29 = some (.if_icmp .eq 30, 3, 0, 0, 0) := by decide +kernel
theorem qdli_32 : xe_look (xc 71) 32 = some (.aload_n 0, 1, 0, 0, 0) := by decide +kernel
theorem qdli_33 : xe_look (xc 71) 33 = some (.getfield 15, 3, 6, 0, 904) := by decide +kernel
theorem qdli_36 : xe_look (xc 71) 36 = some (.iload_n 2, 1, 0, 0, 0) := by decide +kernel
theorem qdli_37 : xe_look (xc 71) 37 = some (.aload_n 0, 1, 0, 0, 0) := by decide +kernel
theorem qdli_38 : xe_look (xc 71) 38 = some (.getfield 15, 3, 6, 0, 904) := by decide +kernel
theorem qdli_41 : xe_look (xc 71) 41 = some (.iload_n 3, 1, 0, 0, 0) := by decide +kernel
theorem qdli_42 : xe_look (xc 71) 42 = some (.iaload, 1, 0, 0, 0) := by decide +kernel
theorem qdli_43 : xe_look (xc 71) 43 = some (.iastore, 1, 0, 0, 0) := by decide +kernel
theorem qdli_44 : xe_look (xc 71) 44 = some (.aload_n 0, 1, 0, 0, 0) := by decide +kernel
theorem qdli_45 : xe_look (xc 71) 45 = some (.getfield 21, 3, 6, 1, 905) := by decide +kernel
theorem qdli_48 : xe_look (xc 71) 48 = some (.iload_n 2, 1, 0, 0, 0) := by decide +kernel
theorem qdli_49 : xe_look (xc 71) 49 = some (.aload_n 0, 1, 0, 0, 0) := by decide +kernel
theorem qdli_50 : xe_look (xc 71) 50 = some (.getfield 21, 3, 6, 1, 905) := by decide +kernel
theorem qdli_53 : xe_look (xc 71) 53 = some (.iload_n 3, 1, 0, 0, 0) := by decide +kernel
theorem qdli_54 : xe_look (xc 71) 54 = some (.iaload, 1, 0, 0, 0) := by decide +kernel
theorem qdli_55 : xe_look (xc 71) 55 = some (.iastore, 1, 0, 0, 0) := by decide +kernel
theorem qdli_56 : xe_look (xc 71) 56 = some (.iinc 2 1, 3, 0, 0, 0) := by decide +kernel
theorem qdli_59 : xe_look (xc 71) 59 = some (.iinc 3 1, 3, 0, 0, 0) := by decide +kernel
theorem qdli_62 : xe_look (xc 71) 62 = some (.goto (-58), 3, 0, 0, 0) := by decide +kernel
theorem qdli_65 : xe_look (xc 71) 65 = some (.aload_n 0, 1, 0, 0, 0) := by decide +kernel
theorem qdli_66 : xe_look (xc 71) 66 = some (.iload_n 2, 1, 0, 0, 0) := by decide +kernel
theorem qdli_67 : xe_look (xc 71) 67 = some (.putfield 24, 3, 6, 2, 903) := by decide +kernel
theorem qdli_70 : xe_look (xc 71) 70 = some (.return_, 1, 0, 0, 0) := by decide +kernel
theorem er_70 : eL[70]? = some (0, 6) := by decide +kernel
theorem er_73 : eL[73]? = some (0, 6) := by decide +kernel
theorem cg_70_0 : (eG (cn 70 + 0)).2.2 = [72] := by decide +kernel
theorem cr_70_0 {d i : Nat} {lv : List (Nat × pv)} {r : List pv} {g : pH} (hG : g_I eG g) : px_push eL d none (.getfield i) 6 0 lv (pvR 70 :: r) g = some (pvR 71 :: r) := pget er_70 (gI_r (r := 71) hG er_70 (Nat.le_of_ble_eq_true rfl) (y := 0) rfl cg_70_0)
theorem cg_70_1 : (eG (cn 70 + 1)).2.2 = [73] := by decide +kernel
theorem cr_70_1 {d i : Nat} {lv : List (Nat × pv)} {r : List pv} {g : pH} (hG : g_I eG g) : px_push eL d none (.getfield i) 6 1 lv (pvR 70 :: r) g = some (pvR 72 :: r) := pget er_70 (gI_r (r := 72) hG er_70 (Nat.le_of_ble_eq_true rfl) (y := 1) rfl cg_70_1)
theorem cg_73_0 : (eG (cn 73 + 0)).2.2 = [75] := by decide +kernel
theorem cr_73_0 {d i : Nat} {lv : List (Nat × pv)} {r : List pv} {g : pH} (hG : g_I eG g) : px_push eL d none (.getfield i) 6 0 lv (pvR 73 :: r) g = some (pvR 74 :: r) := pget er_73 (gI_r (r := 74) hG er_73 (Nat.le_of_ble_eq_true rfl) (y := 0) rfl cg_73_0)
theorem cg_73_1 : (eG (cn 73 + 1)).2.2 = [76] := by decide +kernel
theorem cr_73_1 {d i : Nat} {lv : List (Nat × pv)} {r : List pv} {g : pH} (hG : g_I eG g) : px_push eL d none (.getfield i) 6 1 lv (pvR 73 :: r) g = some (pvR 75 :: r) := pget er_73 (gI_r (r := 75) hG er_73 (Nat.le_of_ble_eq_true rfl) (y := 1) rfl cg_73_1)
theorem gx_70_2 : eG (cn 70 + 2) = (0, 24, []) := by decide +kernel
theorem gx_73_2 : eG (cn 73 + 2) = (0, 12, []) := by decide +kernel
theorem cb_70_2 {g : pH} (hG : g_I eG g) : 0 ≤ cF g 70 2 ∧ cF g 70 2 ≤ 24 := cb_i hG er_70 (Nat.le_of_ble_eq_true rfl) rfl gx_70_2
theorem cb_73_2 {g : pH} (hG : g_I eG g) : 0 ≤ cF g 73 2 ∧ cF g 73 2 ≤ 12 := cb_i hG er_73 (Nat.le_of_ble_eq_true rfl) rfl gx_73_2
theorem el_71 : eL[71]? = some (1, 24) := by decide +kernel
theorem ga_71 : eG (cn 71) = (0, 31, []) := by decide +kernel
theorem el_72 : eL[72]? = some (1, 24) := by decide +kernel
theorem ga_72 : eG (cn 72) = (0, 31, []) := by decide +kernel
theorem el_74 : eL[74]? = some (1, 12) := by decide +kernel
theorem ga_74 : eG (cn 74) = (0, 31, []) := by decide +kernel
theorem el_75 : eL[75]? = some (1, 12) := by decide +kernel
theorem ga_75 : eG (cn 75) = (0, 31, []) := by decide +kernel
theorem el_145 : eL[145]? = some (1, 24) := by decide +kernel
theorem ga_145 : eG (cn 145) = (0, 31, []) := by decide +kernel
theorem el_146 : eL[146]? = some (1, 24) := by decide +kernel
theorem ga_146 : eG (cn 146) = (0, 31, []) := by decide +kernel
theorem el_148 : eL[148]? = some (1, 12) := by decide +kernel
theorem ga_148 : eG (cn 148) = (0, 31, []) := by decide +kernel
theorem el_149 : eL[149]? = some (1, 12) := by decide +kernel
theorem ga_149 : eG (cn 149) = (0, 31, []) := by decide +kernel
theorem el_208 : eL[208]? = some (1, 12) := by decide +kernel
theorem ga_208 : eG (cn 208) = (0, 31, []) := by decide +kernel
theorem el_209 : eL[209]? = some (1, 12) := by decide +kernel
theorem ga_209 : eG (cn 209) = (0, 31, []) := by decide +kernel
theorem el_249 : eL[249]? = some (1, 24) := by decide +kernel
theorem ga_249 : eG (cn 249) = (0, 31, []) := by decide +kernel
theorem el_250 : eL[250]? = some (1, 24) := by decide +kernel
theorem ga_250 : eG (cn 250) = (0, 31, []) := by decide +kernel
theorem el_251 : eL[251]? = some (1, 12) := by decide +kernel
theorem ga_251 : eG (cn 251) = (0, 31, []) := by decide +kernel
theorem el_252 : eL[252]? = some (1, 12) := by decide +kernel
theorem ga_252 : eG (cn 252) = (0, 31, []) := by decide +kernel
section TY
variable {d μ pc W : Nat} {lv : List (Nat × pv)} {r : List pv} {h0 g : pH} {P : Option pv × pH → Prop}
theorem pq_al {x y k n : Nat} (hk : eL[k]? = some (1, n)) (h1 : Nat.beq k 1000 = false) : px_push eL d none .arraylength x y lv (pvR k :: r) g = some (oI (n : Int) :: r) := by
  show px_alen eL none (.inr (.inr (some k)) :: r) = _
  unfold px_alen
  dsimp only
  rw [if_neg (fun z => by rw [z] at h1; cases h1), hk]
  show (if 1 ≤ 1 ∧ 1 ≤ 4 then some ((.inl (nI n) : pv) :: r) else none) = _
  rw [if_pos (by decide), nI_o]
theorem pq_mn {i y : Nat} {a b : Int} (hd : 1 ≤ d) (hr : px_sum r ≤ 6) (ha : -2147483648 ≤ a ∧ a ≤ 2147483647) (hb : -2147483648 ≤ b ∧ b ≤ 2147483647) (hab : a ≤ b) : px_push eL d none (.invokestatic i) 3 y lv (oI b :: oI a :: r) g = some (oI a :: r) := by
  show (if 1 ≤ d ∧ px_sum (oI b :: oI a :: r) ≤ 8 then _ else none) = _
  rw [if_pos ⟨hd, by show 1 + (1 + px_sum r) ≤ 8; omega⟩]
  show px_u2 xe_min (oI b :: oI a :: r) = _
  show some ((.inl (xe_min (Int32.ofInt a) (Int32.ofInt b)) : pv) :: r) = _
  rw [show xe_min (Int32.ofInt a) (Int32.ofInt b) = Int32.ofInt a from if_neg (fun z => by have := (lt_oI hb ha).mp z; omega)]
theorem tw_cp {i y z a a0 na n0 : Nat} {e : Int} (hq : xe_look (xc μ) pc = some (.invokestatic i, 3, 5, y, z)) (hd : 1 ≤ d) (hr : px_sum r ≤ 8) (hJ : J_ W h0 g) (ha : eL[a]? = some (1, na)) (ha0 : eL[a0]? = some (1, n0)) (hn : Nat.ble na 10000 = true) (he : 0 ≤ e ∧ e ≤ na ∧ e ≤ n0) (hW : W.testBit (cn a) = true) (hg : eG (cn a0) = eG (cn a)) (hP : ∀ g1 : pH, J_ W h0 g1 → fA g1 a = (fun k : Nat => if (k : Int) < e then fA g a0 k else fA g a k) → (∀ K, K ≠ a → fA g1 K = fA g K) → g1.1 = g.1 → t_X d μ (pc + 3) lv r g1 P) : t_X d μ pc lv (oI e :: oI 0 :: pvR a :: oI 0 :: pvR a0 :: r) g P := by
  have hn := Nat.le_of_ble_eq_true hn
  have e1 : (Int32.ofInt e).toInt = e := oT (by omega) (by omega)
  have e2 : (Int32.ofInt e).toNatClampNeg = e.toNat := by
    show (Int32.ofInt e).toInt.toNat = _
    rw [e1]
  have z1 : ¬ Int32.ofInt 0 < 0 := by decide
  have z2 : (Int32.ofInt 0).toNatClampNeg = 0 := by decide
  have z3 : ¬ Int32.ofInt e < 0 := by
    rw [Int32.lt_iff_toInt_lt, e1]
    show ¬ e < 0
    omega
  let g1 : pH := (g.1, g.2.1, g.2.2.1, (fun k => if k = a then va_cpy (g.2.2.2.1 a0) (g.2.2.2.1 a) 0 0 e.toNat else g.2.2.2.1 k), g.2.2.2.2)
  have hw : w_a g g1 a := ⟨⟨rfl, rfl, rfl⟩, fun k' hn => ⟨if_neg hn, rfl, rfl⟩⟩
  have hval : ∀ k, g1.2.2.2.1 a k = if k < e.toNat then g.2.2.2.1 a0 k else g.2.2.2.1 a k := fun k => by
    show (if a = a then va_cpy (g.2.2.2.1 a0) (g.2.2.2.1 a) 0 0 e.toNat else g.2.2.2.1 a) k = _
    rw [if_pos rfl]
    unfold va_cpy
    by_cases hk : k < e.toNat
    · rw [if_pos ⟨Nat.zero_le _, by omega⟩, if_pos hk]
      exact congrArg (g.2.2.2.1 a0) (by omega)
    · rw [if_neg (fun z => hk (by omega)), if_neg hk]
  have hI : g_I eG g1 := g_I_a hJ.1 hw (fun t' ht' => by
    rw [ha] at ht'
    cases ht'
    refine ⟨fun h0 i hi => ?_, fun h0 => ?_, fun h0 => ?_⟩
    · rw [hval i]
      split
      · rw [← hg]
        exact gI_ia hJ.1 ha0 (by omega)
      · exact gI_ia hJ.1 ha hi
    · cases h0
    · cases h0)
  refine t_4 hq rfl (w := (r, g1)) ?_ (hP g1 ⟨hI, w_a_M hw hJ.2 hW⟩ ?_ (fun K hK => ?_) rfl)
  · show (if (5 : Nat) = 5 then px_acp eL d g (oI e :: oI 0 :: pvR a :: oI 0 :: pvR a0 :: r) else none) = _
    rw [if_pos rfl]
    unfold px_acp
    dsimp only
    rw [ha, ha0]
    dsimp only
    rw [if_pos ⟨hd, hr, rfl, rfl, z1, z1, z3, by rw [z2, e2]; omega, by rw [z2, e2]; omega⟩, z2, e2]
  · funext k
    show (g1.2.2.2.1 a k).toInt = _
    rw [hval k]
    by_cases hk : k < e.toNat
    · rw [if_pos hk, if_pos (by omega)]
      rfl
    · rw [if_neg hk, if_neg (by omega)]
      rfl
  · show (fun j => ((if K = a then va_cpy (g.2.2.2.1 a0) (g.2.2.2.1 a) 0 0 e.toNat else g.2.2.2.1 K) j).toInt) = _
    rw [if_neg hK]
    rfl
end TY
theorem rg31 {e : Int} (h : 0 ≤ e ∧ e ≤ 31) : 0 ≤ (Int32.ofInt e).toInt ∧ (Int32.ofInt e).toInt ≤ 31 := by
  rw [oT (by omega) (by omega)]
  exact h
theorem fA_pn {f : pH} {K K' j : Nat} {v : Int32} (h : K' ≠ K) : fA (f.1, f.2.1, f.2.2.1, pu f.2.2.2.1 K j v, f.2.2.2.2) K' = fA f K' := by
  funext k
  exact congrArg Int32.toInt (if_neg (fun z => h z.1))
theorem fA_pu2 {f : pH} {K j : Nat} {e : Int} (h : -2147483648 ≤ e ∧ e ≤ 2147483647) : fA (f.1, f.2.1, f.2.2.1, pu f.2.2.2.1 K j (Int32.ofInt e), f.2.2.2.2) K = updI (fA f K) j e := by
  rw [fA_pu, oT h.1 h.2]
/-- what is left of two rows, without twos that have i -/
def dw (i : Int) (A B : Nat → Int) : Nat → Nat × (Nat → Int) × (Nat → Int)
  | 0 => (0, A, B)
  | k + 1 => if (dw i A B k).2.1 k ≠ i ∧ (dw i A B k).2.2 k ≠ i then ((dw i A B k).1 + 1, updI (dw i A B k).2.1 (dw i A B k).1 ((dw i A B k).2.1 k), updI (dw i A B k).2.2 (dw i A B k).1 ((dw i A B k).2.2 k)) else dw i A B k
theorem dw_le {i : Int} {A B : Nat → Int} : ∀ k, (dw i A B k).1 ≤ k
  | 0 => Nat.le_refl _
  | k + 1 => by
    have := dw_le (i := i) (A := A) (B := B) k
    unfold dw
    split
    · show (dw i A B k).1 + 1 ≤ k + 1
      omega
    · omega
theorem dw_t {i : Int} {A B : Nat → Int} {k : Nat} (h1 : (dw i A B k).2.1 k ≠ i) (h2 : (dw i A B k).2.2 k ≠ i) : dw i A B (k + 1) = ((dw i A B k).1 + 1, updI (dw i A B k).2.1 (dw i A B k).1 ((dw i A B k).2.1 k), updI (dw i A B k).2.2 (dw i A B k).1 ((dw i A B k).2.2 k)) := if_pos ⟨h1, h2⟩
theorem dw_f {i : Int} {A B : Nat → Int} {k : Nat} (h : (dw i A B k).2.1 k = i ∨ (dw i A B k).2.2 k = i) : dw i A B (k + 1) = dw i A B k := if_neg (fun z => by
  rcases h with h | h
  · exact z.1 h
  · exact z.2 h)
/-- rows that are the same as far as they go -/
def rwE (N : Nat) (A B A' B' : Nat → Int) : Prop := ∀ j, j < N → A j = A' j ∧ B j = B' j
theorem dw_r {i : Int} {A B A' B' : Nat → Int} {N : Nat} (h : rwE N A B A' B') : ∀ k, k ≤ N → (dw i A B k).1 = (dw i A' B' k).1 ∧ rwE N (dw i A B k).2.1 (dw i A B k).2.2 (dw i A' B' k).2.1 (dw i A' B' k).2.2
  | 0, _ => ⟨rfl, h⟩
  | k + 1, hk => by
    obtain ⟨h1, h2⟩ := dw_r (i := i) h k (by omega)
    obtain ⟨e1, e2⟩ := h2 k (by omega)
    by_cases c : (dw i A B k).2.1 k ≠ i ∧ (dw i A B k).2.2 k ≠ i
    · rw [dw_t c.1 c.2, dw_t (by rw [← e1]; exact c.1) (by rw [← e2]; exact c.2)]
      refine ⟨by show (dw i A B k).1 + 1 = (dw i A' B' k).1 + 1; rw [h1], fun j hj => ?_⟩
      show updI (dw i A B k).2.1 (dw i A B k).1 ((dw i A B k).2.1 k) j = updI (dw i A' B' k).2.1 (dw i A' B' k).1 ((dw i A' B' k).2.1 k) j ∧ updI (dw i A B k).2.2 (dw i A B k).1 ((dw i A B k).2.2 k) j = updI (dw i A' B' k).2.2 (dw i A' B' k).1 ((dw i A' B' k).2.2 k) j
      rw [h1, e1, e2]
      unfold updI
      by_cases z : j = (dw i A' B' k).1
      · rw [if_pos z, if_pos z, if_pos z, if_pos z]
        exact ⟨rfl, rfl⟩
      · rw [if_neg z, if_neg z, if_neg z, if_neg z]
        exact h2 j hj
    · have c1 : (dw i A B k).2.1 k = i ∨ (dw i A B k).2.2 k = i := by
        by_cases z : (dw i A B k).2.1 k = i
        · exact Or.inl z
        · by_cases z2 : (dw i A B k).2.2 k = i
          · exact Or.inr z2
          · exact absurd ⟨z, z2⟩ c
      rw [dw_f c1, dw_f (by rw [← e1, ← e2]; exact c1)]
      exact ⟨h1, h2⟩
set_option maxHeartbeats 2000000 in
theorem ad_cl {d W : Nat} {h0 g : pH} (hJ : J_ W h0 g) (w_a71 : W.testBit (cn 71) = true) (w_a72 : W.testBit (cn 72) = true) (w_70_2 : W.testBit (cn 70 + 2) = true) {i j : Int} (hi : 0 ≤ i ∧ i ≤ 31) (hj : 0 ≤ j ∧ j ≤ 31) {P : Option pv × pH → Prop} (hP0 : cF g 70 2 = 24 → P (some (oI (-1)), g)) (hP1 : ∀ g1 : pH, J_ W h0 g1 → cF g 70 2 < 24 → cF g1 70 2 = cF g 70 2 + 1 → fA g1 71 = updI (fA g 71) (cF g 70 2).toNat i → fA g1 72 = updI (fA g 72) (cF g 70 2).toNat j → P (some (oI (cF g 70 2 + 1)), g1)) {lv : List (Nat × pv)} (l0 : px_lg lv 0 = some (pvR 70)) (l1 : px_lg lv 1 = some (oI i)) (l2 : px_lg lv 2 = some (oI j)) : t_X d 69 0 lv [] g P := by
  have hb := cb_70_2 hJ.1
  refine t_0 qacl_0 rfl (ld_a l0) ?_
  have r1 := cb_70_2 hJ.1
  refine t_0 qacl_1 rfl (pq_cf (y := 2) er_70 rfl) ?_
  refine t_0 qacl_4 rfl (ld_a l0) ?_
  refine t_0 qacl_5 rfl (cr_70_0 hJ.1) ?_
  refine t_0 qacl_8 rfl (pq_al el_71 rfl) ?_
  refine tb_lt qacl_9 (by decide) ⟨by omega, by omega⟩ ⟨by omega, by omega⟩ (fun c2 => ?_) (fun c2 => ?_)
  · show t_X d 69 14 lv [] g P
    refine t_0 qacl_14 rfl (ld_a l0) ?_
    refine t_0 qacl_15 rfl (cr_70_0 hJ.1) ?_
    refine t_0 qacl_18 rfl (ld_a l0) ?_
    have r3 := cb_70_2 hJ.1
    refine t_0 qacl_19 rfl (pq_cf (y := 2) er_70 rfl) ?_
    refine t_0 qacl_22 rfl (ld_i l1) ?_
    refine tw_i qacl_23 hJ el_71 rfl w_a71 ga_71 ⟨by omega, by omega⟩ (rg31 ⟨by omega, by omega⟩) (fun g4 hJ4 e4 => ?_)
    have u4_71 : fA g4 71 = updI (fA g 71) (cF g 70 2).toNat (i) := by rw [e4]; exact fA_pu2 ⟨by omega, by omega⟩
    have u4_72 : fA g4 72 = fA g 72 := by rw [e4]; exact fA_pn (by decide)
    have v4 : cF g4 70 2 = cF g 70 2 := by rw [e4]; rfl
    show t_X d 69 24 lv [] g4 P
    refine t_0 qacl_24 rfl (ld_a l0) ?_
    refine t_0 qacl_25 rfl (cr_70_1 hJ4.1) ?_
    refine t_0 qacl_28 rfl (ld_a l0) ?_
    have r5 := cb_70_2 hJ4.1
    refine t_0 qacl_29 rfl (pq_cf (y := 2) er_70 rfl) ?_
    refine t_0 qacl_32 rfl (ld_i l2) ?_
    refine tw_i qacl_33 hJ4 el_72 rfl w_a72 ga_72 ⟨by omega, by omega⟩ (rg31 ⟨by omega, by omega⟩) (fun g6 hJ6 e6 => ?_)
    have u6_72 : fA g6 72 = updI (fA g4 72) (cF g4 70 2).toNat (j) := by rw [e6]; exact fA_pu2 ⟨by omega, by omega⟩
    have u6_71 : fA g6 71 = fA g4 71 := by rw [e6]; exact fA_pn (by decide)
    have v6 : cF g6 70 2 = cF g4 70 2 := by rw [e6]; rfl
    show t_X d 69 34 lv [] g6 P
    refine t_0 qacl_34 rfl (ld_a l0) ?_
    refine t_0 qacl_35 rfl rfl ?_
    have r7 := cb_70_2 hJ6.1
    refine t_0 qacl_36 rfl (pq_cf (y := 2) er_70 rfl) ?_
    refine t_0 qacl_39 rfl rfl ?_
    refine t_0 qacl_40 rfl pq_add ?_
    refine tw_c qacl_41 er_70 rfl hJ6 w_70_2 gx_70_2 (by decide) ⟨by omega, by omega⟩ (fun g8 hJ8 e8 => ?_)
    have v8 : cF g8 70 2 = (cF g6 70 2) + 1 := by rw [e8]; exact pc_at (by omega) (by omega)
    have u8_71 : fA g8 71 = fA g6 71 := by rw [e8]; rfl
    have u8_72 : fA g8 72 = fA g6 72 := by rw [e8]; rfl
    show t_X d 69 44 lv [] g8 P
    refine t_0 qacl_44 rfl (ld_a l0) ?_
    have r9 := cb_70_2 hJ8.1
    refine t_0 qacl_45 rfl (pq_cf (y := 2) er_70 rfl) ?_
    refine t_5 qacl_48 rfl rfl ?_
    rw [show cF g8 70 2 = cF g 70 2 + 1 by omega]
    refine hP1 _ hJ8 (by omega) (by omega) ?_ ?_
    · simp only [u8_71, u6_71, u4_71, v4, v6]
    · simp only [u8_72, u6_72, u4_72, v4, v6]
  · show t_X d 69 12 lv [] g P
    refine t_0 qacl_12 rfl rfl ?_
    refine t_5 qacl_13 rfl rfl ?_
    exact hP0 (by omega)
set_option maxHeartbeats 2000000 in
theorem ad_li {d W : Nat} {h0 g : pH} (hJ : J_ W h0 g) (w_a74 : W.testBit (cn 74) = true) (w_a75 : W.testBit (cn 75) = true) (w_73_2 : W.testBit (cn 73 + 2) = true) {i j : Int} (hi : 0 ≤ i ∧ i ≤ 31) (hj : 0 ≤ j ∧ j ≤ 31) {P : Option pv × pH → Prop} (hP0 : cF g 73 2 = 12 → P (some (oI (-1)), g)) (hP1 : ∀ g1 : pH, J_ W h0 g1 → cF g 73 2 < 12 → cF g1 73 2 = cF g 73 2 + 1 → fA g1 74 = updI (fA g 74) (cF g 73 2).toNat i → fA g1 75 = updI (fA g 75) (cF g 73 2).toNat j → P (some (oI (cF g 73 2 + 1)), g1)) {lv : List (Nat × pv)} (l0 : px_lg lv 0 = some (pvR 73)) (l1 : px_lg lv 1 = some (oI i)) (l2 : px_lg lv 2 = some (oI j)) : t_X d 69 0 lv [] g P := by
  have hb := cb_73_2 hJ.1
  refine t_0 qali_0 rfl (ld_a l0) ?_
  have r1 := cb_73_2 hJ.1
  refine t_0 qali_1 rfl (pq_cf (y := 2) er_73 rfl) ?_
  refine t_0 qali_4 rfl (ld_a l0) ?_
  refine t_0 qali_5 rfl (cr_73_0 hJ.1) ?_
  refine t_0 qali_8 rfl (pq_al el_74 rfl) ?_
  refine tb_lt qali_9 (by decide) ⟨by omega, by omega⟩ ⟨by omega, by omega⟩ (fun c2 => ?_) (fun c2 => ?_)
  · show t_X d 69 14 lv [] g P
    refine t_0 qali_14 rfl (ld_a l0) ?_
    refine t_0 qali_15 rfl (cr_73_0 hJ.1) ?_
    refine t_0 qali_18 rfl (ld_a l0) ?_
    have r3 := cb_73_2 hJ.1
    refine t_0 qali_19 rfl (pq_cf (y := 2) er_73 rfl) ?_
    refine t_0 qali_22 rfl (ld_i l1) ?_
    refine tw_i qali_23 hJ el_74 rfl w_a74 ga_74 ⟨by omega, by omega⟩ (rg31 ⟨by omega, by omega⟩) (fun g4 hJ4 e4 => ?_)
    have u4_74 : fA g4 74 = updI (fA g 74) (cF g 73 2).toNat (i) := by rw [e4]; exact fA_pu2 ⟨by omega, by omega⟩
    have u4_75 : fA g4 75 = fA g 75 := by rw [e4]; exact fA_pn (by decide)
    have v4 : cF g4 73 2 = cF g 73 2 := by rw [e4]; rfl
    show t_X d 69 24 lv [] g4 P
    refine t_0 qali_24 rfl (ld_a l0) ?_
    refine t_0 qali_25 rfl (cr_73_1 hJ4.1) ?_
    refine t_0 qali_28 rfl (ld_a l0) ?_
    have r5 := cb_73_2 hJ4.1
    refine t_0 qali_29 rfl (pq_cf (y := 2) er_73 rfl) ?_
    refine t_0 qali_32 rfl (ld_i l2) ?_
    refine tw_i qali_33 hJ4 el_75 rfl w_a75 ga_75 ⟨by omega, by omega⟩ (rg31 ⟨by omega, by omega⟩) (fun g6 hJ6 e6 => ?_)
    have u6_75 : fA g6 75 = updI (fA g4 75) (cF g4 73 2).toNat (j) := by rw [e6]; exact fA_pu2 ⟨by omega, by omega⟩
    have u6_74 : fA g6 74 = fA g4 74 := by rw [e6]; exact fA_pn (by decide)
    have v6 : cF g6 73 2 = cF g4 73 2 := by rw [e6]; rfl
    show t_X d 69 34 lv [] g6 P
    refine t_0 qali_34 rfl (ld_a l0) ?_
    refine t_0 qali_35 rfl rfl ?_
    have r7 := cb_73_2 hJ6.1
    refine t_0 qali_36 rfl (pq_cf (y := 2) er_73 rfl) ?_
    refine t_0 qali_39 rfl rfl ?_
    refine t_0 qali_40 rfl pq_add ?_
    refine tw_c qali_41 er_73 rfl hJ6 w_73_2 gx_73_2 (by decide) ⟨by omega, by omega⟩ (fun g8 hJ8 e8 => ?_)
    have v8 : cF g8 73 2 = (cF g6 73 2) + 1 := by rw [e8]; exact pc_at (by omega) (by omega)
    have u8_74 : fA g8 74 = fA g6 74 := by rw [e8]; rfl
    have u8_75 : fA g8 75 = fA g6 75 := by rw [e8]; rfl
    show t_X d 69 44 lv [] g8 P
    refine t_0 qali_44 rfl (ld_a l0) ?_
    have r9 := cb_73_2 hJ8.1
    refine t_0 qali_45 rfl (pq_cf (y := 2) er_73 rfl) ?_
    refine t_5 qali_48 rfl rfl ?_
    rw [show cF g8 73 2 = cF g 73 2 + 1 by omega]
    refine hP1 _ hJ8 (by omega) (by omega) ?_ ?_
    · simp only [u8_74, u6_74, u4_74, v4, v6]
    · simp only [u8_75, u6_75, u4_75, v4, v6]
  · show t_X d 69 12 lv [] g P
    refine t_0 qali_12 rfl rfl ?_
    refine t_5 qali_13 rfl rfl ?_
    exact hP0 (by omega)
set_option maxHeartbeats 4000000 in
theorem dl_cl {d W : Nat} {w0 h0 : pH} {i : Int} (hi : 0 ≤ i ∧ i ≤ 31) (w_a71 : W.testBit (cn 71) = true) (w_a72 : W.testBit (cn 72) = true) (w_70_2 : W.testBit (cn 70 + 2) = true) {P : Option pv × pH → Prop} (hP : ∀ g1 : pH, J_ W w0 g1 → cF g1 70 2 = ((dw i (fA h0 71) (fA h0 72) (cF h0 70 2).toNat).1 : Int) → fA g1 71 = (dw i (fA h0 71) (fA h0 72) (cF h0 70 2).toNat).2.1 → fA g1 72 = (dw i (fA h0 71) (fA h0 72) (cF h0 70 2).toNat).2.2 → P (none, g1)) : ∀ (n m : Nat) (lv : List (Nat × pv)) (g : pH), (cF h0 70 2).toNat - m ≤ n → m ≤ (cF h0 70 2).toNat → J_ W w0 g → cF g 70 2 = cF h0 70 2 → fA g 71 = (dw i (fA h0 71) (fA h0 72) m).2.1 → fA g 72 = (dw i (fA h0 71) (fA h0 72) m).2.2 → px_lg lv 0 = some (pvR 70) → px_lg lv 1 = some (oI i) → px_lg lv 2 = some (oI ((dw i (fA h0 71) (fA h0 72) m).1 : Int)) → px_lg lv 3 = some (oI (m : Int)) → t_X d 71 4 lv [] g P := by
  intro n
  induction n with
  | zero =>
    intro m lv g hn hm hJ hz hA hB l0 l1 l2 l3
    have hc := cb_70_2 hJ.1
    have hle := dw_le (i := i) (A := fA h0 71) (B := fA h0 72) m
    have he : m = (cF h0 70 2).toNat := by omega
    refine t_0 qdcl_4 rfl (ld_i l3) ?_
    refine t_0 qdcl_5 rfl (ld_a l0) ?_
    have r1 := cb_70_2 hJ.1
    refine t_0 qdcl_6 rfl (pq_cf (y := 2) er_70 rfl) ?_
    refine tb_ge qdcl_9 (by decide) ⟨by omega, by omega⟩ ⟨by omega, by omega⟩ (fun c2 => ?_) (fun c2 => absurd c2 (by omega))
    show t_X d 71 65 lv [] g P
    refine t_0 qdcl_65 rfl (ld_a l0) ?_
    refine t_0 qdcl_66 rfl (ld_i l2) ?_
    refine tw_c qdcl_67 er_70 rfl hJ w_70_2 gx_70_2 (by decide) ⟨by omega, by omega⟩ (fun g3 hJ3 e3 => ?_)
    have v3 : cF g3 70 2 = ((dw i (fA h0 71) (fA h0 72) m).1 : Int) := by rw [e3]; exact pc_at (by omega) (by omega)
    have u3_71 : fA g3 71 = fA g 71 := by rw [e3]; rfl
    have u3_72 : fA g3 72 = fA g 72 := by rw [e3]; rfl
    show t_X d 71 70 lv [] g3 P
    refine t_5 qdcl_70 rfl rfl ?_
    refine hP _ hJ3 ?_ ?_ ?_
    · rw [v3, he]
    · simp only [u3_71]; rw [hA, he]
    · simp only [u3_72]; rw [hB, he]
  | succ n ih =>
    intro m lv g hn hm hJ hz hA hB l0 l1 l2 l3
    have hc := cb_70_2 hJ.1
    have hle := dw_le (i := i) (A := fA h0 71) (B := fA h0 72) m
    by_cases hlt : m < (cF h0 70 2).toNat
    · skip
      refine t_0 qdcl_4 rfl (ld_i l3) ?_
      refine t_0 qdcl_5 rfl (ld_a l0) ?_
      have r1 := cb_70_2 hJ.1
      refine t_0 qdcl_6 rfl (pq_cf (y := 2) er_70 rfl) ?_
      refine tb_ge qdcl_9 (by decide) ⟨by omega, by omega⟩ ⟨by omega, by omega⟩ (fun c2 => absurd c2 (by omega)) (fun c2 => ?_)
      show t_X d 71 12 lv [] g P
      refine t_0 qdcl_12 rfl (ld_a l0) ?_
      refine t_0 qdcl_13 rfl (cr_70_0 hJ.1) ?_
      refine t_0 qdcl_16 rfl (ld_i l3) ?_
      refine t_0 qdcl_17 rfl (pq_ia el_71 rfl ⟨by omega, by omega⟩) ?_
      show t_X d 71 18 lv [oI (fA g 71 m)] g P
      have r3 := gb_a hJ.1 el_71 (j := m) (by omega) ga_71
      refine t_0 qdcl_18 rfl (ld_i l1) ?_
      refine tb_eq qdcl_19 (by decide) ⟨by omega, by omega⟩ ⟨by omega, by omega⟩ (fun c4 => ?_) (fun c4 => ?_)
      · show t_X d 71 59 lv [] g P
        refine t_2 qdcl_59 rfl (w := (px_s1 lv 3 (oI ((m : Int) + 1)), [])) (pq_inc l3 (by decide)) ?_
        replace l0 : px_lg (px_s1 lv 3 (oI ((m : Int) + 1))) 0 = some (pvR 70) := s1_ne (by decide) (fun _ => rfl) l0
        replace l1 : px_lg (px_s1 lv 3 (oI ((m : Int) + 1))) 1 = some (oI (i)) := s1_ne (by decide) (fun _ => rfl) l1
        replace l2 : px_lg (px_s1 lv 3 (oI ((m : Int) + 1))) 2 = some (oI (((dw i (fA h0 71) (fA h0 72) m).1 : Int))) := s1_ne (by decide) (fun _ => rfl) l2
        have l3 : px_lg (px_s1 lv 3 (oI ((m : Int) + 1))) 3 = some (oI ((m : Int) + 1)) := s1_eq
        generalize px_s1 lv 3 (oI ((m : Int) + 1)) = lv5 at l0 l1 l2 l3 ⊢
        show t_X d 71 62 lv5 [] g P
        refine t_1 qdcl_62 rfl (pb_goto (pc := 62) (by decide)) ?_
        show t_X d 71 4 lv5 [] g P
        have hd := dw_f (i := i) (A := fA h0 71) (B := fA h0 72) (k := m) (by rw [← hA, ← hB]; omega)
        exact ih (m + 1) _ g (by omega) (by omega) hJ (by omega) (by rw [hd]; exact hA) (by rw [hd]; exact hB) l0 l1 (by rw [l2, hd]) l3
      · show t_X d 71 22 lv [] g P
        refine t_0 qdcl_22 rfl (ld_a l0) ?_
        refine t_0 qdcl_23 rfl (cr_70_1 hJ.1) ?_
        refine t_0 qdcl_26 rfl (ld_i l3) ?_
        refine t_0 qdcl_27 rfl (pq_ia el_72 rfl ⟨by omega, by omega⟩) ?_
        show t_X d 71 28 lv [oI (fA g 72 m)] g P
        have r6 := gb_a hJ.1 el_72 (j := m) (by omega) ga_72
        refine t_0 qdcl_28 rfl (ld_i l1) ?_
        refine tb_eq qdcl_29 (by decide) ⟨by omega, by omega⟩ ⟨by omega, by omega⟩ (fun c7 => ?_) (fun c7 => ?_)
        · show t_X d 71 59 lv [] g P
          refine t_2 qdcl_59 rfl (w := (px_s1 lv 3 (oI ((m : Int) + 1)), [])) (pq_inc l3 (by decide)) ?_
          replace l0 : px_lg (px_s1 lv 3 (oI ((m : Int) + 1))) 0 = some (pvR 70) := s1_ne (by decide) (fun _ => rfl) l0
          replace l1 : px_lg (px_s1 lv 3 (oI ((m : Int) + 1))) 1 = some (oI (i)) := s1_ne (by decide) (fun _ => rfl) l1
          replace l2 : px_lg (px_s1 lv 3 (oI ((m : Int) + 1))) 2 = some (oI (((dw i (fA h0 71) (fA h0 72) m).1 : Int))) := s1_ne (by decide) (fun _ => rfl) l2
          have l3 : px_lg (px_s1 lv 3 (oI ((m : Int) + 1))) 3 = some (oI ((m : Int) + 1)) := s1_eq
          generalize px_s1 lv 3 (oI ((m : Int) + 1)) = lv8 at l0 l1 l2 l3 ⊢
          show t_X d 71 62 lv8 [] g P
          refine t_1 qdcl_62 rfl (pb_goto (pc := 62) (by decide)) ?_
          show t_X d 71 4 lv8 [] g P
          have hd := dw_f (i := i) (A := fA h0 71) (B := fA h0 72) (k := m) (by rw [← hA, ← hB]; omega)
          exact ih (m + 1) _ g (by omega) (by omega) hJ (by omega) (by rw [hd]; exact hA) (by rw [hd]; exact hB) l0 l1 (by rw [l2, hd]) l3
        · show t_X d 71 32 lv [] g P
          refine t_0 qdcl_32 rfl (ld_a l0) ?_
          refine t_0 qdcl_33 rfl (cr_70_0 hJ.1) ?_
          refine t_0 qdcl_36 rfl (ld_i l2) ?_
          refine t_0 qdcl_37 rfl (ld_a l0) ?_
          refine t_0 qdcl_38 rfl (cr_70_0 hJ.1) ?_
          refine t_0 qdcl_41 rfl (ld_i l3) ?_
          refine t_0 qdcl_42 rfl (pq_ia el_71 rfl ⟨by omega, by omega⟩) ?_
          show t_X d 71 43 lv [oI (fA g 71 m), oI (((dw i (fA h0 71) (fA h0 72) m).1 : Int)), pvR 71] g P
          have r9 := gb_a hJ.1 el_71 (j := m) (by omega) ga_71
          refine tw_i qdcl_43 hJ el_71 rfl w_a71 ga_71 ⟨by omega, by omega⟩ (rg31 ⟨by omega, by omega⟩) (fun g10 hJ10 e10 => ?_)
          have u10_71 : fA g10 71 = updI (fA g 71) (((dw i (fA h0 71) (fA h0 72) m).1 : Int)).toNat (fA g 71 m) := by rw [e10]; exact fA_pu2 ⟨by omega, by omega⟩
          have u10_72 : fA g10 72 = fA g 72 := by rw [e10]; exact fA_pn (by decide)
          have v10 : cF g10 70 2 = cF g 70 2 := by rw [e10]; rfl
          show t_X d 71 44 lv [] g10 P
          refine t_0 qdcl_44 rfl (ld_a l0) ?_
          refine t_0 qdcl_45 rfl (cr_70_1 hJ10.1) ?_
          refine t_0 qdcl_48 rfl (ld_i l2) ?_
          refine t_0 qdcl_49 rfl (ld_a l0) ?_
          refine t_0 qdcl_50 rfl (cr_70_1 hJ10.1) ?_
          refine t_0 qdcl_53 rfl (ld_i l3) ?_
          refine t_0 qdcl_54 rfl (pq_ia el_72 rfl ⟨by omega, by omega⟩) ?_
          show t_X d 71 55 lv [oI (fA g10 72 m), oI (((dw i (fA h0 71) (fA h0 72) m).1 : Int)), pvR 72] g10 P
          have r11 := gb_a hJ10.1 el_72 (j := m) (by omega) ga_72
          refine tw_i qdcl_55 hJ10 el_72 rfl w_a72 ga_72 ⟨by omega, by omega⟩ (rg31 ⟨by omega, by omega⟩) (fun g12 hJ12 e12 => ?_)
          have u12_72 : fA g12 72 = updI (fA g10 72) (((dw i (fA h0 71) (fA h0 72) m).1 : Int)).toNat (fA g10 72 m) := by rw [e12]; exact fA_pu2 ⟨by omega, by omega⟩
          have u12_71 : fA g12 71 = fA g10 71 := by rw [e12]; exact fA_pn (by decide)
          have v12 : cF g12 70 2 = cF g10 70 2 := by rw [e12]; rfl
          show t_X d 71 56 lv [] g12 P
          refine t_2 qdcl_56 rfl (w := (px_s1 lv 2 (oI (((dw i (fA h0 71) (fA h0 72) m).1 : Int) + 1)), [])) (pq_inc l2 (by decide)) ?_
          replace l0 : px_lg (px_s1 lv 2 (oI (((dw i (fA h0 71) (fA h0 72) m).1 : Int) + 1))) 0 = some (pvR 70) := s1_ne (by decide) (fun _ => rfl) l0
          replace l1 : px_lg (px_s1 lv 2 (oI (((dw i (fA h0 71) (fA h0 72) m).1 : Int) + 1))) 1 = some (oI (i)) := s1_ne (by decide) (fun _ => rfl) l1
          replace l3 : px_lg (px_s1 lv 2 (oI (((dw i (fA h0 71) (fA h0 72) m).1 : Int) + 1))) 3 = some (oI ((m : Int))) := s1_ne (by decide) (fun _ => rfl) l3
          have l2 : px_lg (px_s1 lv 2 (oI (((dw i (fA h0 71) (fA h0 72) m).1 : Int) + 1))) 2 = some (oI (((dw i (fA h0 71) (fA h0 72) m).1 : Int) + 1)) := s1_eq
          generalize px_s1 lv 2 (oI (((dw i (fA h0 71) (fA h0 72) m).1 : Int) + 1)) = lv13 at l0 l1 l3 l2 ⊢
          show t_X d 71 59 lv13 [] g12 P
          refine t_2 qdcl_59 rfl (w := (px_s1 lv13 3 (oI ((m : Int) + 1)), [])) (pq_inc l3 (by decide)) ?_
          replace l0 : px_lg (px_s1 lv13 3 (oI ((m : Int) + 1))) 0 = some (pvR 70) := s1_ne (by decide) (fun _ => rfl) l0
          replace l1 : px_lg (px_s1 lv13 3 (oI ((m : Int) + 1))) 1 = some (oI (i)) := s1_ne (by decide) (fun _ => rfl) l1
          replace l2 : px_lg (px_s1 lv13 3 (oI ((m : Int) + 1))) 2 = some (oI (((dw i (fA h0 71) (fA h0 72) m).1 : Int) + 1)) := s1_ne (by decide) (fun _ => rfl) l2
          have l3 : px_lg (px_s1 lv13 3 (oI ((m : Int) + 1))) 3 = some (oI ((m : Int) + 1)) := s1_eq
          generalize px_s1 lv13 3 (oI ((m : Int) + 1)) = lv14 at l0 l1 l2 l3 ⊢
          show t_X d 71 62 lv14 [] g12 P
          refine t_1 qdcl_62 rfl (pb_goto (pc := 62) (by decide)) ?_
          show t_X d 71 4 lv14 [] g12 P
          have hd := dw_t (i := i) (A := fA h0 71) (B := fA h0 72) (k := m) (by rw [← hA]; omega) (by rw [← hB]; omega)
          refine ih (m + 1) _ g12 (by omega) (by omega) hJ12 (by omega) ?_ ?_ l0 l1 (by rw [l2, hd]; rfl) l3
          · simp only [u12_71, u10_71]; rw [hd, hA]; rfl
          · simp only [u12_72, u10_72]; rw [hd, hB]; rfl
    · have he : m = (cF h0 70 2).toNat := by omega
      refine t_0 qdcl_4 rfl (ld_i l3) ?_
      refine t_0 qdcl_5 rfl (ld_a l0) ?_
      have r1 := cb_70_2 hJ.1
      refine t_0 qdcl_6 rfl (pq_cf (y := 2) er_70 rfl) ?_
      refine tb_ge qdcl_9 (by decide) ⟨by omega, by omega⟩ ⟨by omega, by omega⟩ (fun c2 => ?_) (fun c2 => absurd c2 (by omega))
      show t_X d 71 65 lv [] g P
      refine t_0 qdcl_65 rfl (ld_a l0) ?_
      refine t_0 qdcl_66 rfl (ld_i l2) ?_
      refine tw_c qdcl_67 er_70 rfl hJ w_70_2 gx_70_2 (by decide) ⟨by omega, by omega⟩ (fun g3 hJ3 e3 => ?_)
      have v3 : cF g3 70 2 = ((dw i (fA h0 71) (fA h0 72) m).1 : Int) := by rw [e3]; exact pc_at (by omega) (by omega)
      have u3_71 : fA g3 71 = fA g 71 := by rw [e3]; rfl
      have u3_72 : fA g3 72 = fA g 72 := by rw [e3]; rfl
      show t_X d 71 70 lv [] g3 P
      refine t_5 qdcl_70 rfl rfl ?_
      refine hP _ hJ3 ?_ ?_ ?_
      · rw [v3, he]
      · simp only [u3_71]; rw [hA, he]
      · simp only [u3_72]; rw [hB, he]
theorem dr_cl {d W : Nat} {w0 h0 : pH} (hJ : J_ W w0 h0) {i : Int} (hi : 0 ≤ i ∧ i ≤ 31) (w_a71 : W.testBit (cn 71) = true) (w_a72 : W.testBit (cn 72) = true) (w_70_2 : W.testBit (cn 70 + 2) = true) {P : Option pv × pH → Prop} (hP : ∀ g1 : pH, J_ W w0 g1 → cF g1 70 2 = ((dw i (fA h0 71) (fA h0 72) (cF h0 70 2).toNat).1 : Int) → fA g1 71 = (dw i (fA h0 71) (fA h0 72) (cF h0 70 2).toNat).2.1 → fA g1 72 = (dw i (fA h0 71) (fA h0 72) (cF h0 70 2).toNat).2.2 → P (none, g1)) {lv : List (Nat × pv)} (l0 : px_lg lv 0 = some (pvR 70)) (l1 : px_lg lv 1 = some (oI i)) : t_X d 71 0 lv [] h0 P := by
  have hc := cb_70_2 hJ.1
  refine t_0 qdcl_0 rfl rfl ?_
  refine t_2 qdcl_1 rfl (w := (px_s1 lv 2 (oI (0)), [])) rfl ?_
  replace l0 : px_lg (px_s1 lv 2 (oI (0))) 0 = some (pvR 70) := s1_ne (by decide) (fun _ => rfl) l0
  replace l1 : px_lg (px_s1 lv 2 (oI (0))) 1 = some (oI (i)) := s1_ne (by decide) (fun _ => rfl) l1
  have l2 : px_lg (px_s1 lv 2 (oI (0))) 2 = some (oI (0)) := s1_eq
  generalize px_s1 lv 2 (oI (0)) = lv1 at l0 l1 l2 ⊢
  show t_X d 71 2 lv1 [] h0 P
  refine t_0 qdcl_2 rfl rfl ?_
  refine t_2 qdcl_3 rfl (w := (px_s1 lv1 3 (oI (0)), [])) rfl ?_
  replace l0 : px_lg (px_s1 lv1 3 (oI (0))) 0 = some (pvR 70) := s1_ne (by decide) (fun _ => rfl) l0
  replace l1 : px_lg (px_s1 lv1 3 (oI (0))) 1 = some (oI (i)) := s1_ne (by decide) (fun _ => rfl) l1
  replace l2 : px_lg (px_s1 lv1 3 (oI (0))) 2 = some (oI (0)) := s1_ne (by decide) (fun _ => rfl) l2
  have l3 : px_lg (px_s1 lv1 3 (oI (0))) 3 = some (oI (0)) := s1_eq
  generalize px_s1 lv1 3 (oI (0)) = lv2 at l0 l1 l2 l3 ⊢
  show t_X d 71 4 lv2 [] h0 P
  exact dl_cl hi w_a71 w_a72 w_70_2 hP 24 0 _ _ (by omega) (by omega) hJ rfl rfl rfl l0 l1 l2 l3
set_option maxHeartbeats 4000000 in
theorem dl_li {d W : Nat} {w0 h0 : pH} {i : Int} (hi : 0 ≤ i ∧ i ≤ 31) (w_a74 : W.testBit (cn 74) = true) (w_a75 : W.testBit (cn 75) = true) (w_73_2 : W.testBit (cn 73 + 2) = true) {P : Option pv × pH → Prop} (hP : ∀ g1 : pH, J_ W w0 g1 → cF g1 73 2 = ((dw i (fA h0 74) (fA h0 75) (cF h0 73 2).toNat).1 : Int) → fA g1 74 = (dw i (fA h0 74) (fA h0 75) (cF h0 73 2).toNat).2.1 → fA g1 75 = (dw i (fA h0 74) (fA h0 75) (cF h0 73 2).toNat).2.2 → P (none, g1)) : ∀ (n m : Nat) (lv : List (Nat × pv)) (g : pH), (cF h0 73 2).toNat - m ≤ n → m ≤ (cF h0 73 2).toNat → J_ W w0 g → cF g 73 2 = cF h0 73 2 → fA g 74 = (dw i (fA h0 74) (fA h0 75) m).2.1 → fA g 75 = (dw i (fA h0 74) (fA h0 75) m).2.2 → px_lg lv 0 = some (pvR 73) → px_lg lv 1 = some (oI i) → px_lg lv 2 = some (oI ((dw i (fA h0 74) (fA h0 75) m).1 : Int)) → px_lg lv 3 = some (oI (m : Int)) → t_X d 71 4 lv [] g P := by
  intro n
  induction n with
  | zero =>
    intro m lv g hn hm hJ hz hA hB l0 l1 l2 l3
    have hc := cb_73_2 hJ.1
    have hle := dw_le (i := i) (A := fA h0 74) (B := fA h0 75) m
    have he : m = (cF h0 73 2).toNat := by omega
    refine t_0 qdli_4 rfl (ld_i l3) ?_
    refine t_0 qdli_5 rfl (ld_a l0) ?_
    have r1 := cb_73_2 hJ.1
    refine t_0 qdli_6 rfl (pq_cf (y := 2) er_73 rfl) ?_
    refine tb_ge qdli_9 (by decide) ⟨by omega, by omega⟩ ⟨by omega, by omega⟩ (fun c2 => ?_) (fun c2 => absurd c2 (by omega))
    show t_X d 71 65 lv [] g P
    refine t_0 qdli_65 rfl (ld_a l0) ?_
    refine t_0 qdli_66 rfl (ld_i l2) ?_
    refine tw_c qdli_67 er_73 rfl hJ w_73_2 gx_73_2 (by decide) ⟨by omega, by omega⟩ (fun g3 hJ3 e3 => ?_)
    have v3 : cF g3 73 2 = ((dw i (fA h0 74) (fA h0 75) m).1 : Int) := by rw [e3]; exact pc_at (by omega) (by omega)
    have u3_74 : fA g3 74 = fA g 74 := by rw [e3]; rfl
    have u3_75 : fA g3 75 = fA g 75 := by rw [e3]; rfl
    show t_X d 71 70 lv [] g3 P
    refine t_5 qdli_70 rfl rfl ?_
    refine hP _ hJ3 ?_ ?_ ?_
    · rw [v3, he]
    · simp only [u3_74]; rw [hA, he]
    · simp only [u3_75]; rw [hB, he]
  | succ n ih =>
    intro m lv g hn hm hJ hz hA hB l0 l1 l2 l3
    have hc := cb_73_2 hJ.1
    have hle := dw_le (i := i) (A := fA h0 74) (B := fA h0 75) m
    by_cases hlt : m < (cF h0 73 2).toNat
    · skip
      refine t_0 qdli_4 rfl (ld_i l3) ?_
      refine t_0 qdli_5 rfl (ld_a l0) ?_
      have r1 := cb_73_2 hJ.1
      refine t_0 qdli_6 rfl (pq_cf (y := 2) er_73 rfl) ?_
      refine tb_ge qdli_9 (by decide) ⟨by omega, by omega⟩ ⟨by omega, by omega⟩ (fun c2 => absurd c2 (by omega)) (fun c2 => ?_)
      show t_X d 71 12 lv [] g P
      refine t_0 qdli_12 rfl (ld_a l0) ?_
      refine t_0 qdli_13 rfl (cr_73_0 hJ.1) ?_
      refine t_0 qdli_16 rfl (ld_i l3) ?_
      refine t_0 qdli_17 rfl (pq_ia el_74 rfl ⟨by omega, by omega⟩) ?_
      show t_X d 71 18 lv [oI (fA g 74 m)] g P
      have r3 := gb_a hJ.1 el_74 (j := m) (by omega) ga_74
      refine t_0 qdli_18 rfl (ld_i l1) ?_
      refine tb_eq qdli_19 (by decide) ⟨by omega, by omega⟩ ⟨by omega, by omega⟩ (fun c4 => ?_) (fun c4 => ?_)
      · show t_X d 71 59 lv [] g P
        refine t_2 qdli_59 rfl (w := (px_s1 lv 3 (oI ((m : Int) + 1)), [])) (pq_inc l3 (by decide)) ?_
        replace l0 : px_lg (px_s1 lv 3 (oI ((m : Int) + 1))) 0 = some (pvR 73) := s1_ne (by decide) (fun _ => rfl) l0
        replace l1 : px_lg (px_s1 lv 3 (oI ((m : Int) + 1))) 1 = some (oI (i)) := s1_ne (by decide) (fun _ => rfl) l1
        replace l2 : px_lg (px_s1 lv 3 (oI ((m : Int) + 1))) 2 = some (oI (((dw i (fA h0 74) (fA h0 75) m).1 : Int))) := s1_ne (by decide) (fun _ => rfl) l2
        have l3 : px_lg (px_s1 lv 3 (oI ((m : Int) + 1))) 3 = some (oI ((m : Int) + 1)) := s1_eq
        generalize px_s1 lv 3 (oI ((m : Int) + 1)) = lv5 at l0 l1 l2 l3 ⊢
        show t_X d 71 62 lv5 [] g P
        refine t_1 qdli_62 rfl (pb_goto (pc := 62) (by decide)) ?_
        show t_X d 71 4 lv5 [] g P
        have hd := dw_f (i := i) (A := fA h0 74) (B := fA h0 75) (k := m) (by rw [← hA, ← hB]; omega)
        exact ih (m + 1) _ g (by omega) (by omega) hJ (by omega) (by rw [hd]; exact hA) (by rw [hd]; exact hB) l0 l1 (by rw [l2, hd]) l3
      · show t_X d 71 22 lv [] g P
        refine t_0 qdli_22 rfl (ld_a l0) ?_
        refine t_0 qdli_23 rfl (cr_73_1 hJ.1) ?_
        refine t_0 qdli_26 rfl (ld_i l3) ?_
        refine t_0 qdli_27 rfl (pq_ia el_75 rfl ⟨by omega, by omega⟩) ?_
        show t_X d 71 28 lv [oI (fA g 75 m)] g P
        have r6 := gb_a hJ.1 el_75 (j := m) (by omega) ga_75
        refine t_0 qdli_28 rfl (ld_i l1) ?_
        refine tb_eq qdli_29 (by decide) ⟨by omega, by omega⟩ ⟨by omega, by omega⟩ (fun c7 => ?_) (fun c7 => ?_)
        · show t_X d 71 59 lv [] g P
          refine t_2 qdli_59 rfl (w := (px_s1 lv 3 (oI ((m : Int) + 1)), [])) (pq_inc l3 (by decide)) ?_
          replace l0 : px_lg (px_s1 lv 3 (oI ((m : Int) + 1))) 0 = some (pvR 73) := s1_ne (by decide) (fun _ => rfl) l0
          replace l1 : px_lg (px_s1 lv 3 (oI ((m : Int) + 1))) 1 = some (oI (i)) := s1_ne (by decide) (fun _ => rfl) l1
          replace l2 : px_lg (px_s1 lv 3 (oI ((m : Int) + 1))) 2 = some (oI (((dw i (fA h0 74) (fA h0 75) m).1 : Int))) := s1_ne (by decide) (fun _ => rfl) l2
          have l3 : px_lg (px_s1 lv 3 (oI ((m : Int) + 1))) 3 = some (oI ((m : Int) + 1)) := s1_eq
          generalize px_s1 lv 3 (oI ((m : Int) + 1)) = lv8 at l0 l1 l2 l3 ⊢
          show t_X d 71 62 lv8 [] g P
          refine t_1 qdli_62 rfl (pb_goto (pc := 62) (by decide)) ?_
          show t_X d 71 4 lv8 [] g P
          have hd := dw_f (i := i) (A := fA h0 74) (B := fA h0 75) (k := m) (by rw [← hA, ← hB]; omega)
          exact ih (m + 1) _ g (by omega) (by omega) hJ (by omega) (by rw [hd]; exact hA) (by rw [hd]; exact hB) l0 l1 (by rw [l2, hd]) l3
        · show t_X d 71 32 lv [] g P
          refine t_0 qdli_32 rfl (ld_a l0) ?_
          refine t_0 qdli_33 rfl (cr_73_0 hJ.1) ?_
          refine t_0 qdli_36 rfl (ld_i l2) ?_
          refine t_0 qdli_37 rfl (ld_a l0) ?_
          refine t_0 qdli_38 rfl (cr_73_0 hJ.1) ?_
          refine t_0 qdli_41 rfl (ld_i l3) ?_
          refine t_0 qdli_42 rfl (pq_ia el_74 rfl ⟨by omega, by omega⟩) ?_
          show t_X d 71 43 lv [oI (fA g 74 m), oI (((dw i (fA h0 74) (fA h0 75) m).1 : Int)), pvR 74] g P
          have r9 := gb_a hJ.1 el_74 (j := m) (by omega) ga_74
          refine tw_i qdli_43 hJ el_74 rfl w_a74 ga_74 ⟨by omega, by omega⟩ (rg31 ⟨by omega, by omega⟩) (fun g10 hJ10 e10 => ?_)
          have u10_74 : fA g10 74 = updI (fA g 74) (((dw i (fA h0 74) (fA h0 75) m).1 : Int)).toNat (fA g 74 m) := by rw [e10]; exact fA_pu2 ⟨by omega, by omega⟩
          have u10_75 : fA g10 75 = fA g 75 := by rw [e10]; exact fA_pn (by decide)
          have v10 : cF g10 73 2 = cF g 73 2 := by rw [e10]; rfl
          show t_X d 71 44 lv [] g10 P
          refine t_0 qdli_44 rfl (ld_a l0) ?_
          refine t_0 qdli_45 rfl (cr_73_1 hJ10.1) ?_
          refine t_0 qdli_48 rfl (ld_i l2) ?_
          refine t_0 qdli_49 rfl (ld_a l0) ?_
          refine t_0 qdli_50 rfl (cr_73_1 hJ10.1) ?_
          refine t_0 qdli_53 rfl (ld_i l3) ?_
          refine t_0 qdli_54 rfl (pq_ia el_75 rfl ⟨by omega, by omega⟩) ?_
          show t_X d 71 55 lv [oI (fA g10 75 m), oI (((dw i (fA h0 74) (fA h0 75) m).1 : Int)), pvR 75] g10 P
          have r11 := gb_a hJ10.1 el_75 (j := m) (by omega) ga_75
          refine tw_i qdli_55 hJ10 el_75 rfl w_a75 ga_75 ⟨by omega, by omega⟩ (rg31 ⟨by omega, by omega⟩) (fun g12 hJ12 e12 => ?_)
          have u12_75 : fA g12 75 = updI (fA g10 75) (((dw i (fA h0 74) (fA h0 75) m).1 : Int)).toNat (fA g10 75 m) := by rw [e12]; exact fA_pu2 ⟨by omega, by omega⟩
          have u12_74 : fA g12 74 = fA g10 74 := by rw [e12]; exact fA_pn (by decide)
          have v12 : cF g12 73 2 = cF g10 73 2 := by rw [e12]; rfl
          show t_X d 71 56 lv [] g12 P
          refine t_2 qdli_56 rfl (w := (px_s1 lv 2 (oI (((dw i (fA h0 74) (fA h0 75) m).1 : Int) + 1)), [])) (pq_inc l2 (by decide)) ?_
          replace l0 : px_lg (px_s1 lv 2 (oI (((dw i (fA h0 74) (fA h0 75) m).1 : Int) + 1))) 0 = some (pvR 73) := s1_ne (by decide) (fun _ => rfl) l0
          replace l1 : px_lg (px_s1 lv 2 (oI (((dw i (fA h0 74) (fA h0 75) m).1 : Int) + 1))) 1 = some (oI (i)) := s1_ne (by decide) (fun _ => rfl) l1
          replace l3 : px_lg (px_s1 lv 2 (oI (((dw i (fA h0 74) (fA h0 75) m).1 : Int) + 1))) 3 = some (oI ((m : Int))) := s1_ne (by decide) (fun _ => rfl) l3
          have l2 : px_lg (px_s1 lv 2 (oI (((dw i (fA h0 74) (fA h0 75) m).1 : Int) + 1))) 2 = some (oI (((dw i (fA h0 74) (fA h0 75) m).1 : Int) + 1)) := s1_eq
          generalize px_s1 lv 2 (oI (((dw i (fA h0 74) (fA h0 75) m).1 : Int) + 1)) = lv13 at l0 l1 l3 l2 ⊢
          show t_X d 71 59 lv13 [] g12 P
          refine t_2 qdli_59 rfl (w := (px_s1 lv13 3 (oI ((m : Int) + 1)), [])) (pq_inc l3 (by decide)) ?_
          replace l0 : px_lg (px_s1 lv13 3 (oI ((m : Int) + 1))) 0 = some (pvR 73) := s1_ne (by decide) (fun _ => rfl) l0
          replace l1 : px_lg (px_s1 lv13 3 (oI ((m : Int) + 1))) 1 = some (oI (i)) := s1_ne (by decide) (fun _ => rfl) l1
          replace l2 : px_lg (px_s1 lv13 3 (oI ((m : Int) + 1))) 2 = some (oI (((dw i (fA h0 74) (fA h0 75) m).1 : Int) + 1)) := s1_ne (by decide) (fun _ => rfl) l2
          have l3 : px_lg (px_s1 lv13 3 (oI ((m : Int) + 1))) 3 = some (oI ((m : Int) + 1)) := s1_eq
          generalize px_s1 lv13 3 (oI ((m : Int) + 1)) = lv14 at l0 l1 l2 l3 ⊢
          show t_X d 71 62 lv14 [] g12 P
          refine t_1 qdli_62 rfl (pb_goto (pc := 62) (by decide)) ?_
          show t_X d 71 4 lv14 [] g12 P
          have hd := dw_t (i := i) (A := fA h0 74) (B := fA h0 75) (k := m) (by rw [← hA]; omega) (by rw [← hB]; omega)
          refine ih (m + 1) _ g12 (by omega) (by omega) hJ12 (by omega) ?_ ?_ l0 l1 (by rw [l2, hd]; rfl) l3
          · simp only [u12_74, u10_74]; rw [hd, hA]; rfl
          · simp only [u12_75, u10_75]; rw [hd, hB]; rfl
    · have he : m = (cF h0 73 2).toNat := by omega
      refine t_0 qdli_4 rfl (ld_i l3) ?_
      refine t_0 qdli_5 rfl (ld_a l0) ?_
      have r1 := cb_73_2 hJ.1
      refine t_0 qdli_6 rfl (pq_cf (y := 2) er_73 rfl) ?_
      refine tb_ge qdli_9 (by decide) ⟨by omega, by omega⟩ ⟨by omega, by omega⟩ (fun c2 => ?_) (fun c2 => absurd c2 (by omega))
      show t_X d 71 65 lv [] g P
      refine t_0 qdli_65 rfl (ld_a l0) ?_
      refine t_0 qdli_66 rfl (ld_i l2) ?_
      refine tw_c qdli_67 er_73 rfl hJ w_73_2 gx_73_2 (by decide) ⟨by omega, by omega⟩ (fun g3 hJ3 e3 => ?_)
      have v3 : cF g3 73 2 = ((dw i (fA h0 74) (fA h0 75) m).1 : Int) := by rw [e3]; exact pc_at (by omega) (by omega)
      have u3_74 : fA g3 74 = fA g 74 := by rw [e3]; rfl
      have u3_75 : fA g3 75 = fA g 75 := by rw [e3]; rfl
      show t_X d 71 70 lv [] g3 P
      refine t_5 qdli_70 rfl rfl ?_
      refine hP _ hJ3 ?_ ?_ ?_
      · rw [v3, he]
      · simp only [u3_74]; rw [hA, he]
      · simp only [u3_75]; rw [hB, he]
theorem dr_li {d W : Nat} {w0 h0 : pH} (hJ : J_ W w0 h0) {i : Int} (hi : 0 ≤ i ∧ i ≤ 31) (w_a74 : W.testBit (cn 74) = true) (w_a75 : W.testBit (cn 75) = true) (w_73_2 : W.testBit (cn 73 + 2) = true) {P : Option pv × pH → Prop} (hP : ∀ g1 : pH, J_ W w0 g1 → cF g1 73 2 = ((dw i (fA h0 74) (fA h0 75) (cF h0 73 2).toNat).1 : Int) → fA g1 74 = (dw i (fA h0 74) (fA h0 75) (cF h0 73 2).toNat).2.1 → fA g1 75 = (dw i (fA h0 74) (fA h0 75) (cF h0 73 2).toNat).2.2 → P (none, g1)) {lv : List (Nat × pv)} (l0 : px_lg lv 0 = some (pvR 73)) (l1 : px_lg lv 1 = some (oI i)) : t_X d 71 0 lv [] h0 P := by
  have hc := cb_73_2 hJ.1
  refine t_0 qdli_0 rfl rfl ?_
  refine t_2 qdli_1 rfl (w := (px_s1 lv 2 (oI (0)), [])) rfl ?_
  replace l0 : px_lg (px_s1 lv 2 (oI (0))) 0 = some (pvR 73) := s1_ne (by decide) (fun _ => rfl) l0
  replace l1 : px_lg (px_s1 lv 2 (oI (0))) 1 = some (oI (i)) := s1_ne (by decide) (fun _ => rfl) l1
  have l2 : px_lg (px_s1 lv 2 (oI (0))) 2 = some (oI (0)) := s1_eq
  generalize px_s1 lv 2 (oI (0)) = lv1 at l0 l1 l2 ⊢
  show t_X d 71 2 lv1 [] h0 P
  refine t_0 qdli_2 rfl rfl ?_
  refine t_2 qdli_3 rfl (w := (px_s1 lv1 3 (oI (0)), [])) rfl ?_
  replace l0 : px_lg (px_s1 lv1 3 (oI (0))) 0 = some (pvR 73) := s1_ne (by decide) (fun _ => rfl) l0
  replace l1 : px_lg (px_s1 lv1 3 (oI (0))) 1 = some (oI (i)) := s1_ne (by decide) (fun _ => rfl) l1
  replace l2 : px_lg (px_s1 lv1 3 (oI (0))) 2 = some (oI (0)) := s1_ne (by decide) (fun _ => rfl) l2
  have l3 : px_lg (px_s1 lv1 3 (oI (0))) 3 = some (oI (0)) := s1_eq
  generalize px_s1 lv1 3 (oI (0)) = lv2 at l0 l1 l2 l3 ⊢
  show t_X d 71 4 lv2 [] h0 P
  exact dl_li hi w_a74 w_a75 w_73_2 hP 12 0 _ _ (by omega) (by omega) hJ rfl rfl rfl l0 l1 l2 l3
