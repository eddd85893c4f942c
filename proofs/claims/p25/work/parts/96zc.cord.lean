/-! orders of the class, exactly: from the back, one ahead of another one (printed by wip/e2/x2.py) -/
theorem oad_0 : xe_look (xc 57) 0 = some (.aload_n 0, 1, 0, 0, 0) := by decide +kernel
theorem oad_1 : xe_look (xc 57) 1 = some (.getfield 21, 3, 5, 7, 878) := by decide +kernel
theorem oad_4 : xe_look (xc 57) 4 = some (.iload_n 2, 1, 0, 0, 0) := by decide +kernel
theorem oad_5 : xe_look (xc 57) 5 = some (.iconst 1, 1, 0, 0, 0) := by decide +kernel
theorem oad_6 : xe_look (xc 57) 6 = some (.iload_n 1, 1, 0, 0, 0) := by decide +kernel
theorem oad_7 : xe_look (xc 57) 7 = some (.ishl, 1, 0, 0, 0) := by decide +kernel
theorem oad_8 : xe_look (xc 57) 8 = some (.ixor, 1, 0, 0, 0) := by decide +kernel
theorem oad_9 : xe_look (xc 57) 9 = some (.iaload, 1, 0, 0, 0) := by decide +kernel
theorem oad_10 : xe_look (xc 57) 10 = some (.aload_n 0, 1, 0, 0, 0) := by decide +kernel
theorem oad_11 : xe_look (xc 57) 11 = some (.getfield 24, 3, 5, 8, 879) := by decide +kernel
theorem oad_14 : xe_look (xc 57) 14 = some (.iload_n 2, 1, 0, 0, 0) := by decide +kernel
theorem oad_15 : xe_look (xc 57) 15 = some (.iaload, 1, 0, 0, 0) := by decide +kernel
theorem oad_16 : xe_look (xc 57) 16 = some (.imul, 1, 0, 0, 0) := by decide +kernel
theorem oad_17 : xe_look (xc 57) 17 = some (.istore_n 3, 1, 0, 0, 0) := by decide +kernel
theorem oad_18 : xe_look (xc 57) 18 = some (.iload_n 1, 1, 0, 0, 0) := by decide +kernel
theorem oad_19 : xe_look (xc 57) 19 = some (.iconst 1, 1, 0, 0, 0) := by decide +kernel
theorem oad_20 : xe_look (xc 57) 20 = some (.iadd, 1, 0, 0, 0) := by decide +kernel
theorem oad_21 : xe_look (xc 57) 21 = some (.istore 4, 2, 0, 0, 0) := by decide +kernel
theorem oad_23 : xe_look (xc 57) 23 = some (.iload 4, 2, 0, 0, 0) := by decide +kernel
theorem oad_25 : xe_look (xc 57) 25 = some (.aload_n 0, 1, 0, 0, 0) := by decide +kernel
theorem oad_26 : xe_look (xc 57) 26 = some (.getfield 42, 3, 5, 3, 880) := by decide +kernel
theorem oad_29 : xe_look (xc 57) 29 = some (.if_icmp .ge 38, 3, 0, 0, 0) := by decide +kernel
theorem oad_32 : xe_look (xc 57) 32 = some (.aload_n 0, 1, 0, 0, 0) := by decide +kernel
theorem oad_33 : xe_look (xc 57) 33 = some (.getfield 27, 3, 5, 9, 881) := by decide +kernel
theorem oad_36 : xe_look (xc 57) 36 = some (.iload_n 1, 1, 0, 0, 0) := by decide +kernel
theorem oad_37 : xe_look (xc 57) 37 = some (.bipush 12, 2, 0, 0, 0) := by decide +kernel
theorem oad_39 : xe_look (xc 57) 39 = some (.imul, 1, 0, 0, 0) := by decide +kernel
theorem oad_40 : xe_look (xc 57) 40 = some (.iload 4, 2, 0, 0, 0) := by decide +kernel
theorem oad_42 : xe_look (xc 57) 42 = some (.iadd, 1, 0, 0, 0) := by decide +kernel
theorem oad_43 : xe_look (xc 57) 43 = some (.dup2, 1, 0, 0, 0) := by decide +kernel
theorem oad_44 : xe_look (xc 57) 44 = some (.iaload, 1, 0, 0, 0) := by decide +kernel
theorem oad_45 : xe_look (xc 57) 45 = some (.iload_n 2, 1, 0, 0, 0) := by decide +kernel
theorem oad_46 : xe_look (xc 57) 46 = some (.iload 4, 2, 0, 0, 0) := by decide +kernel
theorem oad_48 : xe_look (xc 57) 48 = some (.ishr, 1, 0, 0, 0) := by decide +kernel
theorem oad_49 : xe_look (xc 57) 49 = some (.iconst 1, 1, 0, 0, 0) := by decide +kernel
theorem oad_50 : xe_look (xc 57) 50 = some (.iand, 1, 0, 0, 0) := by decide +kernel
theorem oad_51 : xe_look (xc 57) 51 = some (.ifCond .ne 7, 3, 0, 0, 0) := by decide +kernel
theorem oad_54 : xe_look (xc 57) 54 = some (.iload_n 3, 1, 0, 0, 0) := by decide +kernel
theorem oad_55 : xe_look (xc 57) 55 = some (.goto 4, 3, 0, 0, 0) := by decide +kernel
theorem oad_58 : xe_look (xc 57) 58 = some (.iconst 0, 1, 0, 0, 0) := by decide +kernel
theorem oad_59 : xe_look (xc 57) 59 = some (.iadd, 1, 0, 0, 0) := by decide +kernel
theorem oad_60 : xe_look (xc 57) 60 = some (.iastore, 1, 0, 0, 0) := by decide +kernel
theorem oad_61 : xe_look (xc 57) 61 = some (.iinc 4 1, 3, 0, 0, 0) := by decide +kernel
theorem oad_64 : xe_look (xc 57) 64 = some (.goto (-41), 3, 0, 0, 0) := by decide +kernel
theorem oad_67 : xe_look (xc 57) 67 = some (.return_, 1, 0, 0, 0) := by decide +kernel
theorem ocl_0 : xe_look (xc 61) 0 = some (.iconst 1, 1, 0, 0, 0) := by decide +kernel
theorem ocl_1 : xe_look (xc 61) 1 = some (.aload_n 0, 1, 0, 0, 0) := by decide +kernel
theorem ocl_2 : xe_look (xc 61) 2 = some (.getfield 42, 3, 5, 3, 880) := by decide +kernel
theorem ocl_5 : xe_look (xc 61) 5 = some (.ishl, 1, 0, 0, 0) := by decide +kernel
theorem ocl_6 : xe_look (xc 61) 6 = some (.iconst 1, 1, 0, 0, 0) := by decide +kernel
theorem ocl_7 : xe_look (xc 61) 7 = some (.isub, 1, 0, 0, 0) := by decide +kernel
theorem ocl_8 : xe_look (xc 61) 8 = some (.istore_n 1, 1, 0, 0, 0) := by decide +kernel
theorem ocl_9 : xe_look (xc 61) 9 = some (.aload_n 0, 1, 0, 0, 0) := by decide +kernel
theorem ocl_10 : xe_look (xc 61) 10 = some (.getfield 24, 3, 5, 8, 879) := by decide +kernel
theorem ocl_13 : xe_look (xc 61) 13 = some (.iload_n 1, 1, 0, 0, 0) := by decide +kernel
theorem ocl_14 : xe_look (xc 61) 14 = some (.iconst 1, 1, 0, 0, 0) := by decide +kernel
theorem ocl_15 : xe_look (xc 61) 15 = some (.iastore, 1, 0, 0, 0) := by decide +kernel
theorem ocl_16 : xe_look (xc 61) 16 = some (.iload_n 1, 1, 0, 0, 0) := by decide +kernel
theorem ocl_17 : xe_look (xc 61) 17 = some (.iconst 1, 1, 0, 0, 0) := by decide +kernel
theorem ocl_18 : xe_look (xc 61) 18 = some (.isub, 1, 0, 0, 0) := by decide +kernel
theorem ocl_19 : xe_look (xc 61) 19 = some (.istore_n 2, 1, 0, 0, 0) := by decide +kernel
theorem ocl_20 : xe_look (xc 61) 20 = some (.iload_n 2, 1, 0, 0, 0) := by decide +kernel
theorem ocl_21 : xe_look (xc 61) 21 = some (.ifCond .lt 64, 3, 0, 0, 0) := by decide +kernel
theorem ocl_24 : xe_look (xc 61) 24 = some (.iconst 0, 1, 0, 0, 0) := by decide +kernel
theorem ocl_25 : xe_look (xc 61) 25 = some (.istore_n 3, 1, 0, 0, 0) := by decide +kernel
theorem ocl_26 : xe_look (xc 61) 26 = some (.iconst 0, 1, 0, 0, 0) := by decide +kernel
theorem ocl_27 : xe_look (xc 61) 27 = some (.istore 4, 2, 0, 0, 0) := by decide +kernel
theorem ocl_29 : xe_look (xc 61) 29 = some (.iload 4, 2, 0, 0, 0) := by decide +kernel
theorem ocl_31 : xe_look (xc 61) 31 = some (.aload_n 0, 1, 0, 0, 0) := by decide +kernel
theorem ocl_32 : xe_look (xc 61) 32 = some (.getfield 42, 3, 5, 3, 880) := by decide +kernel
theorem ocl_35 : xe_look (xc 61) 35 = some (.if_icmp .ge 37, 3, 0, 0, 0) := by decide +kernel
theorem ocl_38 : xe_look (xc 61) 38 = some (.iload_n 3, 1, 0, 0, 0) := by decide +kernel
theorem ocl_39 : xe_look (xc 61) 39 = some (.aload_n 0, 1, 0, 0, 0) := by decide +kernel
theorem ocl_40 : xe_look (xc 61) 40 = some (.iload 4, 2, 0, 0, 0) := by decide +kernel
theorem ocl_42 : xe_look (xc 61) 42 = some (.iload_n 2, 1, 0, 0, 0) := by decide +kernel
theorem ocl_43 : xe_look (xc 61) 43 = some (.invokevirtual 70, 3, 0, 58, 886) := by decide +kernel
theorem ocl_46 : xe_look (xc 61) 46 = some (.ifCond .eq 17, 3, 0, 0, 0) := by decide +kernel
theorem ocl_49 : xe_look (xc 61) 49 = some (.aload_n 0, 1, 0, 0, 0) := by decide +kernel
theorem ocl_50 : xe_look (xc 61) 50 = some (.getfield 24, 3, 5, 8, 879) := by decide +kernel
theorem ocl_53 : xe_look (xc 61) 53 = some (.iload_n 2, 1, 0, 0, 0) := by decide +kernel
theorem ocl_54 : xe_look (xc 61) 54 = some (.iconst 1, 1, 0, 0, 0) := by decide +kernel
theorem ocl_55 : xe_look (xc 61) 55 = some (.iload 4, 2, 0, 0, 0) := by decide +kernel
theorem ocl_57 : xe_look (xc 61) 57 = some (.ishl, 1, 0, 0, 0) := by decide +kernel
theorem ocl_58 : xe_look (xc 61) 58 = some (.ior, 1, 0, 0, 0) := by decide +kernel
theorem ocl_59 : xe_look (xc 61) 59 = some (.iaload, 1, 0, 0, 0) := by decide +kernel
theorem ocl_60 : xe_look (xc 61) 60 = some (.goto 4, 3, 0, 0, 0) := by decide +kernel
theorem ocl_63 : xe_look (xc 61) 63 = some (.iconst 0, 1, 0, 0, 0) := by decide +kernel
theorem ocl_64 : xe_look (xc 61) 64 = some (.iadd, 1, 0, 0, 0) := by decide +kernel
theorem ocl_65 : xe_look (xc 61) 65 = some (.istore_n 3, 1, 0, 0, 0) := by decide +kernel
theorem ocl_66 : xe_look (xc 61) 66 = some (.iinc 4 1, 3, 0, 0, 0) := by decide +kernel
theorem ocl_69 : xe_look (xc 61) 69 = some (.goto (-40), 3, 0, 0, 0) := by decide +kernel
theorem ocl_72 : xe_look (xc 61) 72 = some (.aload_n 0, 1, 0, 0, 0) := by decide +kernel
theorem ocl_73 : xe_look (xc 61) 73 = some (.getfield 24, 3, 5, 8, 879) := by decide +kernel
theorem ocl_76 : xe_look (xc 61) 76 = some (.iload_n 2, 1, 0, 0, 0) := by decide +kernel
theorem ocl_77 : xe_look (xc 61) 77 = some (.iload_n 3, 1, 0, 0, 0) := by decide +kernel
theorem ocl_78 : xe_look (xc 61) 78 = some (.iastore, 1, 0, 0, 0) := by decide +kernel
theorem ocl_79 : xe_look (xc 61) 79 = some (.iinc 2 (-1), 3, 0, 0, 0) := by decide +kernel
theorem ocl_82 : xe_look (xc 61) 82 = some (.goto (-62), 3, 0, 0, 0) := by decide +kernel
theorem ocl_85 : xe_look (xc 61) 85 = some (.return_, 1, 0, 0, 0) := by decide +kernel
theorem ocw_0 : xe_look (xc 62) 0 = some (.iconst 0, 1, 0, 0, 0) := by decide +kernel
theorem ocw_1 : xe_look (xc 62) 1 = some (.istore_n 1, 1, 0, 0, 0) := by decide +kernel
theorem ocw_2 : xe_look (xc 62) 2 = some (.iload_n 1, 1, 0, 0, 0) := by decide +kernel
theorem ocw_3 : xe_look (xc 62) 3 = some (.aload_n 0, 1, 0, 0, 0) := by decide +kernel
theorem ocw_4 : xe_look (xc 62) 4 = some (.getfield 27, 3, 5, 9, 881) := by decide +kernel
theorem ocw_7 : xe_look (xc 62) 7 = some (.arraylength, 1, 0, 0, 0) := by decide +kernel
theorem ocw_8 : xe_look (xc 62) 8 = some (.if_icmp .ge 16, 3, 0, 0, 0) := by decide +kernel
theorem ocw_11 : xe_look (xc 62) 11 = some (.aload_n 0, 1, 0, 0, 0) := by decide +kernel
theorem ocw_12 : xe_look (xc 62) 12 = some (.getfield 27, 3, 5, 9, 881) := by decide +kernel
theorem ocw_15 : xe_look (xc 62) 15 = some (.iload_n 1, 1, 0, 0, 0) := by decide +kernel
theorem ocw_16 : xe_look (xc 62) 16 = some (.iconst 0, 1, 0, 0, 0) := by decide +kernel
theorem ocw_17 : xe_look (xc 62) 17 = some (.iastore, 1, 0, 0, 0) := by decide +kernel
theorem ocw_18 : xe_look (xc 62) 18 = some (.iinc 1 1, 3, 0, 0, 0) := by decide +kernel
theorem ocw_21 : xe_look (xc 62) 21 = some (.goto (-19), 3, 0, 0, 0) := by decide +kernel
theorem ocw_24 : xe_look (xc 62) 24 = some (.iconst 1, 1, 0, 0, 0) := by decide +kernel
theorem ocw_25 : xe_look (xc 62) 25 = some (.aload_n 0, 1, 0, 0, 0) := by decide +kernel
theorem ocw_26 : xe_look (xc 62) 26 = some (.getfield 42, 3, 5, 3, 880) := by decide +kernel
theorem ocw_29 : xe_look (xc 62) 29 = some (.ishl, 1, 0, 0, 0) := by decide +kernel
theorem ocw_30 : xe_look (xc 62) 30 = some (.iconst 1, 1, 0, 0, 0) := by decide +kernel
theorem ocw_31 : xe_look (xc 62) 31 = some (.isub, 1, 0, 0, 0) := by decide +kernel
theorem ocw_32 : xe_look (xc 62) 32 = some (.istore_n 1, 1, 0, 0, 0) := by decide +kernel
theorem ocw_33 : xe_look (xc 62) 33 = some (.iconst 0, 1, 0, 0, 0) := by decide +kernel
theorem ocw_34 : xe_look (xc 62) 34 = some (.istore_n 2, 1, 0, 0, 0) := by decide +kernel
theorem ocw_35 : xe_look (xc 62) 35 = some (.iload_n 2, 1, 0, 0, 0) := by decide +kernel
theorem ocw_36 : xe_look (xc 62) 36 = some (.iload_n 1, 1, 0, 0, 0) := by decide +kernel
theorem ocw_37 : xe_look (xc 62) 37 = some (.if_icmp .ge 53, 3, 0, 0, 0) := by decide +kernel
theorem ocw_40 : xe_look (xc 62) 40 = some (.iconst 0, 1, 0, 0, 0) := by decide +kernel
theorem ocw_41 : xe_look (xc 62) 41 = some (.istore_n 3, 1, 0, 0, 0) := by decide +kernel
theorem ocw_42 : xe_look (xc 62) 42 = some (.iload_n 3, 1, 0, 0, 0) := by decide +kernel
theorem ocw_43 : xe_look (xc 62) 43 = some (.aload_n 0, 1, 0, 0, 0) := by decide +kernel
theorem ocw_44 : xe_look (xc 62) 44 = some (.getfield 42, 3, 5, 3, 880) := by decide +kernel
theorem ocw_47 : xe_look (xc 62) 47 = some (.if_icmp .ge 37, 3, 0, 0, 0) := by decide +kernel
theorem ocw_50 : xe_look (xc 62) 50 = some (.aload_n 0, 1, 0, 0, 0) := by decide +kernel
theorem ocw_51 : xe_look (xc 62) 51 = some (.getfield 21, 3, 5, 7, 878) := by decide +kernel
theorem ocw_54 : xe_look (xc 62) 54 = some (.iload_n 2, 1, 0, 0, 0) := by decide +kernel
theorem ocw_55 : xe_look (xc 62) 55 = some (.iaload, 1, 0, 0, 0) := by decide +kernel
theorem ocw_56 : xe_look (xc 62) 56 = some (.ifCond .eq 28, 3, 0, 0, 0) := by decide +kernel
theorem ocw_59 : xe_look (xc 62) 59 = some (.aload_n 0, 1, 0, 0, 0) := by decide +kernel
theorem ocw_60 : xe_look (xc 62) 60 = some (.iload_n 3, 1, 0, 0, 0) := by decide +kernel
theorem ocw_61 : xe_look (xc 62) 61 = some (.iload_n 2, 1, 0, 0, 0) := by decide +kernel
theorem ocw_62 : xe_look (xc 62) 62 = some (.invokevirtual 70, 3, 0, 58, 886) := by decide +kernel
theorem ocw_65 : xe_look (xc 62) 65 = some (.ifCond .eq 13, 3, 0, 0, 0) := by decide +kernel
theorem ocw_68 : xe_look (xc 62) 68 = some (.aload_n 0, 1, 0, 0, 0) := by decide +kernel
theorem ocw_69 : xe_look (xc 62) 69 = some (.iload_n 3, 1, 0, 0, 0) := by decide +kernel
theorem ocw_70 : xe_look (xc 62) 70 = some (.iload_n 2, 1, 0, 0, 0) := by decide +kernel
theorem ocw_71 : xe_look (xc 62) 71 = some (.iconst 1, 1, 0, 0, 0) := by decide +kernel
theorem ocw_72 : xe_look (xc 62) 72 = some (.iload_n 3, 1, 0, 0, 0) := by decide +kernel
theorem ocw_73 : xe_look (xc 62) 73 = some (.ishl, 1, 0, 0, 0) := by decide +kernel
theorem ocw_74 : xe_look (xc 62) 74 = some (.ior, 1, 0, 0, 0) := by decide +kernel
theorem ocw_75 : xe_look (xc 62) 75 = some (.invokevirtual 99, 3, 0, 57, 887) := by decide +kernel
theorem ocw_78 : xe_look (xc 62) 78 = some (.iinc 3 1, 3, 0, 0, 0) := by decide +kernel
theorem ocw_81 : xe_look (xc 62) 81 = some (.goto (-39), 3, 0, 0, 0) := by decide +kernel
theorem ocw_84 : xe_look (xc 62) 84 = some (.iinc 2 1, 3, 0, 0, 0) := by decide +kernel
theorem ocw_87 : xe_look (xc 62) 87 = some (.goto (-52), 3, 0, 0, 0) := by decide +kernel
theorem ocw_90 : xe_look (xc 62) 90 = some (.return_, 1, 0, 0, 0) := by decide +kernel
def ocf (A : Nat → Nat) (N s k : Nat) : Int := if oc A k s = true then oF A N (s ||| 2 ^ k) else 0
theorem oF_c {A : Nat → Nat} {N s : Nat} (h : s + 1 < 2 ^ N) : oF A N s = oS (ocf A N s) N := oF_s h
/-- what one step adds for a, b -/
def oqt (A : Nat → Nat) (N a b s : Nat) : Int := if oc A a s = true ∧ s.testBit b = false then oW A N s s * oF A N (s ||| 2 ^ a) else 0
theorem oQ_s {A : Nat → Nat} {N a b s : Nat} : oQ A N a b (s + 1) = oQ A N a b s + oqt A N a b s := rfl
/-- the row of twos within a stage: those below a are done -/
def oLa (A : Nat → Nat) (N s a : Nat) (la : tC) : Prop := ∀ x y : Nat, x < y → y < N → la (12 * x + y) = b32 (oQ A N x y s + (if x < a then oqt A N x y s else 0))
def oLb (A : Nat → Nat) (N s a b : Nat) (la : tC) : Prop := ∀ x y : Nat, x < y → y < N → la (12 * x + y) = b32 (oQ A N x y s + (if x < a ∨ (x = a ∧ y < b) then oqt A N x y s else 0))
theorem ogu_194 : eG (cn 194) = ((-2147483648), 2147483647, []) := by decide +kernel
theorem ogu_195 : eG (cn 195) = ((-2147483648), 2147483647, []) := by decide +kernel
theorem och_189_8 : (eG (cn 189 + 8)).2.2 = [195] := by decide +kernel
theorem ocq_189_8 {d i : Nat} {lv : List (Nat × pv)} {r : List pv} {g : pH} (hG : g_I eG g) : px_push eL d none (.getfield i) 5 8 lv (pvR 189 :: r) g = some (pvR 194 :: r) := pget oeo_189 (gI_r (r := 194) hG oeo_189 (Nat.le_of_ble_eq_true rfl) (y := 8) rfl och_189_8)
theorem och_189_9 : (eG (cn 189 + 9)).2.2 = [196] := by decide +kernel
theorem ocq_189_9 {d i : Nat} {lv : List (Nat × pv)} {r : List pv} {g : pH} (hG : g_I eG g) : px_push eL d none (.getfield i) 5 9 lv (pvR 189 :: r) g = some (pvR 195 :: r) := pget oeo_189 (gI_r (r := 195) hG oeo_189 (Nat.le_of_ble_eq_true rfl) (y := 9) rfl och_189_9)
theorem oez_194 : eL[194]? = some (1, 4096) := by decide +kernel
theorem oez_195 : eL[195]? = some (1, 144) := by decide +kernel
theorem wu_jO_194 : jO.testBit (cn 194) = true := by decide +kernel
theorem wu_jO_195 : jO.testBit (cn 195) = true := by decide +kernel
set_option maxHeartbeats 1000000 in
theorem oclL3 {d N : Nat} (hd : 3 ≤ d) (hN : N ≤ 12) {A : Nat → Nat} {g0 : pH} {va vb vc : Int} {nu pl ah wf la : tC} (hA : oAh A N ah) {P : Option pv × pH → Prop} {s : Nat} (hs : s + 1 < 2 ^ N) {wl : tC} (hw : ∀ T : Nat, s < T → T < 2 ^ N → wl T = oF A N T) {g : pH} (hC : oE g0 g va vb vc N nu pl ah wf wl la → ∀ {lv : List (Nat × pv)}, px_lg lv 0 = some (pvR 189) → px_lg lv 1 = some (oI ((2 ^ N - 1 : Nat) : Int)) → px_lg lv 2 = some (oI (s : Int)) → px_lg lv 3 = some (oI (oS (ocf A N s) N)) → t_X d 61 72 lv [] g P) : ∀ (m k : Nat), N - k ≤ m → k ≤ N → oE g0 g va vb vc N nu pl ah wf wl la → ∀ {lv : List (Nat × pv)}, px_lg lv 0 = some (pvR 189) → px_lg lv 1 = some (oI ((2 ^ N - 1 : Nat) : Int)) → px_lg lv 2 = some (oI (s : Int)) → px_lg lv 3 = some (oI (oS (ocf A N s) k)) → px_lg lv 4 = some (oI (k : Int)) → t_X d 61 29 lv [] g P := by
  have hp := pw_12 hN
  have hp1 : 1 ≤ 2 ^ N := Nat.one_le_two_pow
  intro m
  induction m with
  | zero =>
    intro k hm hk hS lv l0 l1 l2 l3 l4
    have hkN : k = N := by omega
    refine t_0 ocl_29 rfl (ld_i l4) ?_
    refine t_0 ocl_31 rfl (ld_a l0) ?_
    refine t_0 ocl_32 rfl (pq_cv oeo_189 rfl (show cF g 189 3 = (N : Int) from S_f hS 3 (Nat.le_of_ble_eq_true rfl))) ?_
    show t_X d 61 35 lv [oI ((N : Int)), oI ((k : Int))] g P
    refine tb_ge ocl_35 (by decide) ⟨by omega, by omega⟩ ⟨by omega, by omega⟩ (fun c1 => ?_) (fun c1 => absurd c1 (by omega))
    show t_X d 61 72 lv [] g P
    rw [hkN] at l3
    exact hC hS l0 l1 l2 l3
  | succ m ih =>
    intro k hm hk hS lv l0 l1 l2 l3 l4
    by_cases hkN : k = N
    · refine t_0 ocl_29 rfl (ld_i l4) ?_
      refine t_0 ocl_31 rfl (ld_a l0) ?_
      refine t_0 ocl_32 rfl (pq_cv oeo_189 rfl (show cF g 189 3 = (N : Int) from S_f hS 3 (Nat.le_of_ble_eq_true rfl))) ?_
      show t_X d 61 35 lv [oI ((N : Int)), oI ((k : Int))] g P
      refine tb_ge ocl_35 (by decide) ⟨by omega, by omega⟩ ⟨by omega, by omega⟩ (fun c1 => ?_) (fun c1 => absurd c1 (by omega))
      show t_X d 61 72 lv [] g P
      rw [hkN] at l3
      exact hC hS l0 l1 l2 l3
    have hx : s ||| 2 ^ k < 2 ^ N := ob_up (by omega) (by omega)
    refine t_0 ocl_29 rfl (ld_i l4) ?_
    refine t_0 ocl_31 rfl (ld_a l0) ?_
    refine t_0 ocl_32 rfl (pq_cv oeo_189 rfl (show cF g 189 3 = (N : Int) from S_f hS 3 (Nat.le_of_ble_eq_true rfl))) ?_
    show t_X d 61 35 lv [oI ((N : Int)), oI ((k : Int))] g P
    refine tb_ge ocl_35 (by decide) ⟨by omega, by omega⟩ ⟨by omega, by omega⟩ (fun c1 => absurd c1 (by omega)) (fun c1 => ?_)
    show t_X d 61 38 lv [] g P
    refine t_0 ocl_38 rfl (ld_i l3) ?_
    refine t_0 ocl_39 rfl (ld_a l0) ?_
    refine t_0 ocl_40 rfl (ld_i l4) ?_
    refine t_0 ocl_42 rfl (ld_i l2) ?_
    refine t_3 ocl_43 rfl (ar := ([pvR 189, oI ((k : Int)), oI ((s : Int))], [oI (oS (ocf A N s) k)])) (pcal_w (as := [oI ((s : Int)), oI ((k : Int))]) rfl rfl rfl oeo_189) ⟨by omega, Nat.le_of_ble_eq_true rfl, Nat.le_of_ble_eq_true rfl, rfl⟩ ?_
    refine ocf_run hS (A := A) (k := k) (S := s) (by omega) (by omega) (hA k (by omega)).1 (hA k (by omega)).2 (fun t2 => ?_) (fun t2 => ?_) rfl rfl rfl
    · show t_X d 61 46 lv [oI 1, oI (oS (ocf A N s) k)] g P
      refine tz_eq ocl_46 (by decide) ⟨by omega, by omega⟩ (fun c3 => absurd c3 (by omega)) (fun c3 => ?_)
      show t_X d 61 49 lv [oI (oS (ocf A N s) k)] g P
      refine t_0 ocl_49 rfl (ld_a l0) ?_
      refine t_0 ocl_50 rfl (ocq_189_8 (S_J hS).1) ?_
      show t_X d 61 53 lv [pvR 194, oI (oS (ocf A N s) k)] g P
      refine t_0 ocl_53 rfl (ld_i l2) ?_
      refine t_0 ocl_54 rfl rfl ?_
      refine t_0 ocl_55 rfl (ld_i l4) ?_
      refine t_0 ocl_57 rfl rfl ?_
      refine t_0 ocl_58 rfl (pq_orx (s := s) (k := k) (by omega) (by omega)) ?_
      have r4 := pb_a (S_J hS).1 oez_194 (j := ((s ||| 2 ^ k : Nat) : Int).toNat) (by omega) ogu_194 (show fA g 194 = wl from S_a hS 4 (Nat.le_of_ble_eq_true rfl))
      refine t_0 ocl_59 rfl (pq_iv oez_194 rfl ⟨by omega, by omega⟩ (show fA g 194 = wl from S_a hS 4 (Nat.le_of_ble_eq_true rfl))) ?_
      show t_X d 61 60 lv [oI (wl (((s ||| 2 ^ k : Nat) : Int).toNat)), oI (oS (ocf A N s) k)] g P
      rw [show wl ((s ||| 2 ^ k : Nat) : Int).toNat = oF A N (s ||| 2 ^ k) from hw _ (ob_lt (oc_b t2)) hx]
      show t_X d 61 60 lv [oI (oF A N (s ||| 2 ^ k)), oI (oS (ocf A N s) k)] g P
      refine t_1 ocl_60 rfl (pb_goto (pc := 60) (by decide)) ?_
      show t_X d 61 64 lv [oI (oF A N (s ||| 2 ^ k)), oI (oS (ocf A N s) k)] g P
      refine t_0 ocl_64 rfl pq_add ?_
      rw [show oS (ocf A N s) k + (oF A N (s ||| 2 ^ k)) = oS (ocf A N s) (k + 1) from by show _ = oS (ocf A N s) k + ocf A N s k; unfold ocf; rw [if_pos t2]]
      show t_X d 61 65 lv [oI (oS (ocf A N s) (k + 1))] g P
      refine t_2 ocl_65 rfl (w := (px_s1 lv 3 (oI (oS (ocf A N s) (k + 1))), [])) rfl ?_
      replace l0 : px_lg (px_s1 lv 3 (oI (oS (ocf A N s) (k + 1)))) 0 = some (pvR 189) := s1_ne (by decide) (fun _ => rfl) l0
      replace l1 : px_lg (px_s1 lv 3 (oI (oS (ocf A N s) (k + 1)))) 1 = some (oI (((2 ^ N - 1 : Nat) : Int))) := s1_ne (by decide) (fun _ => rfl) l1
      replace l2 : px_lg (px_s1 lv 3 (oI (oS (ocf A N s) (k + 1)))) 2 = some (oI ((s : Int))) := s1_ne (by decide) (fun _ => rfl) l2
      replace l4 : px_lg (px_s1 lv 3 (oI (oS (ocf A N s) (k + 1)))) 4 = some (oI ((k : Int))) := s1_ne (by decide) (fun _ => rfl) l4
      have l3 : px_lg (px_s1 lv 3 (oI (oS (ocf A N s) (k + 1)))) 3 = some (oI (oS (ocf A N s) (k + 1))) := s1_eq
      generalize px_s1 lv 3 (oI (oS (ocf A N s) (k + 1))) = lv5 at l0 l1 l2 l4 l3 ⊢
      show t_X d 61 66 lv5 [] g P
      refine t_2 ocl_66 rfl (w := (px_s1 lv5 4 (oI ((k : Int) + 1)), [])) (pq_inc l4 (by decide)) ?_
      replace l0 : px_lg (px_s1 lv5 4 (oI ((k : Int) + 1))) 0 = some (pvR 189) := s1_ne (by decide) (fun _ => rfl) l0
      replace l1 : px_lg (px_s1 lv5 4 (oI ((k : Int) + 1))) 1 = some (oI (((2 ^ N - 1 : Nat) : Int))) := s1_ne (by decide) (fun _ => rfl) l1
      replace l2 : px_lg (px_s1 lv5 4 (oI ((k : Int) + 1))) 2 = some (oI ((s : Int))) := s1_ne (by decide) (fun _ => rfl) l2
      replace l3 : px_lg (px_s1 lv5 4 (oI ((k : Int) + 1))) 3 = some (oI (oS (ocf A N s) (k + 1))) := s1_ne (by decide) (fun _ => rfl) l3
      have l4 : px_lg (px_s1 lv5 4 (oI ((k : Int) + 1))) 4 = some (oI ((k : Int) + 1)) := s1_eq
      generalize px_s1 lv5 4 (oI ((k : Int) + 1)) = lv6 at l0 l1 l2 l3 l4 ⊢
      show t_X d 61 69 lv6 [] g P
      refine t_1 ocl_69 rfl (pb_goto (pc := 69) (by decide)) ?_
      show t_X d 61 29 lv6 [] g P
      exact ih (k + 1) (by omega) (by omega) hS l0 l1 l2 l3 l4
    · show t_X d 61 46 lv [oI 0, oI (oS (ocf A N s) k)] g P
      refine tz_eq ocl_46 (by decide) ⟨by omega, by omega⟩ (fun c7 => ?_) (fun c7 => absurd c7 (by omega))
      show t_X d 61 63 lv [oI (oS (ocf A N s) k)] g P
      refine t_0 ocl_63 rfl rfl ?_
      refine t_0 ocl_64 rfl pq_add ?_
      rw [show oS (ocf A N s) k + 0 = oS (ocf A N s) (k + 1) from by show _ = oS (ocf A N s) k + ocf A N s k; rw [show ocf A N s k = 0 from if_neg (by rw [t2]; decide)]]
      show t_X d 61 65 lv [oI (oS (ocf A N s) (k + 1))] g P
      refine t_2 ocl_65 rfl (w := (px_s1 lv 3 (oI (oS (ocf A N s) (k + 1))), [])) rfl ?_
      replace l0 : px_lg (px_s1 lv 3 (oI (oS (ocf A N s) (k + 1)))) 0 = some (pvR 189) := s1_ne (by decide) (fun _ => rfl) l0
      replace l1 : px_lg (px_s1 lv 3 (oI (oS (ocf A N s) (k + 1)))) 1 = some (oI (((2 ^ N - 1 : Nat) : Int))) := s1_ne (by decide) (fun _ => rfl) l1
      replace l2 : px_lg (px_s1 lv 3 (oI (oS (ocf A N s) (k + 1)))) 2 = some (oI ((s : Int))) := s1_ne (by decide) (fun _ => rfl) l2
      replace l4 : px_lg (px_s1 lv 3 (oI (oS (ocf A N s) (k + 1)))) 4 = some (oI ((k : Int))) := s1_ne (by decide) (fun _ => rfl) l4
      have l3 : px_lg (px_s1 lv 3 (oI (oS (ocf A N s) (k + 1)))) 3 = some (oI (oS (ocf A N s) (k + 1))) := s1_eq
      generalize px_s1 lv 3 (oI (oS (ocf A N s) (k + 1))) = lv8 at l0 l1 l2 l4 l3 ⊢
      show t_X d 61 66 lv8 [] g P
      refine t_2 ocl_66 rfl (w := (px_s1 lv8 4 (oI ((k : Int) + 1)), [])) (pq_inc l4 (by decide)) ?_
      replace l0 : px_lg (px_s1 lv8 4 (oI ((k : Int) + 1))) 0 = some (pvR 189) := s1_ne (by decide) (fun _ => rfl) l0
      replace l1 : px_lg (px_s1 lv8 4 (oI ((k : Int) + 1))) 1 = some (oI (((2 ^ N - 1 : Nat) : Int))) := s1_ne (by decide) (fun _ => rfl) l1
      replace l2 : px_lg (px_s1 lv8 4 (oI ((k : Int) + 1))) 2 = some (oI ((s : Int))) := s1_ne (by decide) (fun _ => rfl) l2
      replace l3 : px_lg (px_s1 lv8 4 (oI ((k : Int) + 1))) 3 = some (oI (oS (ocf A N s) (k + 1))) := s1_ne (by decide) (fun _ => rfl) l3
      have l4 : px_lg (px_s1 lv8 4 (oI ((k : Int) + 1))) 4 = some (oI ((k : Int) + 1)) := s1_eq
      generalize px_s1 lv8 4 (oI ((k : Int) + 1)) = lv9 at l0 l1 l2 l3 l4 ⊢
      show t_X d 61 69 lv9 [] g P
      refine t_1 ocl_69 rfl (pb_goto (pc := 69) (by decide)) ?_
      show t_X d 61 29 lv9 [] g P
      exact ih (k + 1) (by omega) (by omega) hS l0 l1 l2 l3 l4
set_option maxHeartbeats 1000000 in
theorem oclL2 {d N : Nat} (hd : 3 ≤ d) (hN : N ≤ 12) {A : Nat → Nat} {g0 : pH} {va vb vc : Int} {nu pl ah wf la : tC} (hA : oAh A N ah) {P : Option pv × pH → Prop} (hP : ∀ (g : pH) (wl : tC), oE g0 g va vb vc N nu pl ah wf wl la → (∀ T : Nat, T < 2 ^ N → wl T = oF A N T) → P (none, g)) : ∀ (m : Nat) (x : Int) (g : pH) {wl : tC}, x + 1 ≤ m → -1 ≤ x ∧ x + 1 < ((2 ^ N : Nat) : Int) → (∀ T : Nat, x < T → T < 2 ^ N → wl T = oF A N T) → oE g0 g va vb vc N nu pl ah wf wl la → ∀ {lv : List (Nat × pv)}, px_lg lv 0 = some (pvR 189) → px_lg lv 1 = some (oI ((2 ^ N - 1 : Nat) : Int)) → px_lg lv 2 = some (oI x) → t_X d 61 20 lv [] g P := by
  have hp := pw_12 hN
  have hp1 : 1 ≤ 2 ^ N := Nat.one_le_two_pow
  intro m
  induction m with
  | zero =>
    intro x g wl hm hs hw hS lv l0 l1 l2
    refine t_0 ocl_20 rfl (ld_i l2) ?_
    refine tz_lt ocl_21 (by decide) ⟨by omega, by omega⟩ (fun c1 => ?_) (fun c1 => absurd c1 (by omega))
    show t_X d 61 85 lv [] g P
    refine t_5 ocl_85 rfl rfl ?_
    exact hP _ _ hS (fun T hT => hw T (by omega) hT)
  | succ m ih =>
    intro x g wl hm hs hw hS lv l0 l1 l2
    by_cases hsN : x < 0
    · refine t_0 ocl_20 rfl (ld_i l2) ?_
      refine tz_lt ocl_21 (by decide) ⟨by omega, by omega⟩ (fun c1 => ?_) (fun c1 => absurd c1 (by omega))
      show t_X d 61 85 lv [] g P
      refine t_5 ocl_85 rfl rfl ?_
      exact hP _ _ hS (fun T hT => hw T (by omega) hT)
    obtain ⟨s, rfl⟩ : ∃ s : Nat, x = s := ⟨x.toNat, by omega⟩
    replace hw : ∀ T : Nat, s < T → T < 2 ^ N → wl T = oF A N T := fun T h1 h2 => hw T (by omega) h2
    refine t_0 ocl_20 rfl (ld_i l2) ?_
    refine tz_lt ocl_21 (by decide) ⟨by omega, by omega⟩ (fun c1 => absurd c1 (by omega)) (fun c1 => ?_)
    show t_X d 61 24 lv [] g P
    refine t_0 ocl_24 rfl rfl ?_
    refine t_2 ocl_25 rfl (w := (px_s1 lv 3 (oI 0), [])) rfl ?_
    replace l0 : px_lg (px_s1 lv 3 (oI 0)) 0 = some (pvR 189) := s1_ne (by decide) (fun _ => rfl) l0
    replace l1 : px_lg (px_s1 lv 3 (oI 0)) 1 = some (oI (((2 ^ N - 1 : Nat) : Int))) := s1_ne (by decide) (fun _ => rfl) l1
    replace l2 : px_lg (px_s1 lv 3 (oI 0)) 2 = some (oI ((s : Int))) := s1_ne (by decide) (fun _ => rfl) l2
    have l3 : px_lg (px_s1 lv 3 (oI 0)) 3 = some (oI 0) := s1_eq
    generalize px_s1 lv 3 (oI 0) = lv2 at l0 l1 l2 l3 ⊢
    show t_X d 61 26 lv2 [] g P
    refine t_0 ocl_26 rfl rfl ?_
    refine t_2 ocl_27 rfl (w := (px_s1 lv2 4 (oI 0), [])) rfl ?_
    replace l0 : px_lg (px_s1 lv2 4 (oI 0)) 0 = some (pvR 189) := s1_ne (by decide) (fun _ => rfl) l0
    replace l1 : px_lg (px_s1 lv2 4 (oI 0)) 1 = some (oI (((2 ^ N - 1 : Nat) : Int))) := s1_ne (by decide) (fun _ => rfl) l1
    replace l2 : px_lg (px_s1 lv2 4 (oI 0)) 2 = some (oI ((s : Int))) := s1_ne (by decide) (fun _ => rfl) l2
    replace l3 : px_lg (px_s1 lv2 4 (oI 0)) 3 = some (oI 0) := s1_ne (by decide) (fun _ => rfl) l3
    have l4 : px_lg (px_s1 lv2 4 (oI 0)) 4 = some (oI 0) := s1_eq
    generalize px_s1 lv2 4 (oI 0) = lv3 at l0 l1 l2 l3 l4 ⊢
    show t_X d 61 29 lv3 [] g P
    refine oclL3 hd hN hA (by omega) hw (fun hS9 {lv9} l0 l1 l2 l3 => ?_) N 0 (by omega) (by omega) hS l0 l1 l2 l3 l4
    rw [← oF_c (by omega)] at l3
    have hb := oF_b (A := A) (S := s) hN
    show t_X d 61 72 lv9 [] g P
    refine t_0 ocl_72 rfl (ld_a l0) ?_
    refine t_0 ocl_73 rfl (ocq_189_8 (S_J hS9).1) ?_
    show t_X d 61 76 lv9 [pvR 194] g P
    refine t_0 ocl_76 rfl (ld_i l2) ?_
    refine t_0 ocl_77 rfl (ld_i l3) ?_
    refine ts_a (n := 4) rfl rfl (by decide) ocl_78 hS9 oez_194 rfl wu_jO_194 ogu_194 (by decide) ⟨by omega, by omega⟩ ⟨by omega, by omega⟩ (fun g4 hS4 => ?_)
    replace hS4 : oE g0 g4 va vb vc (N : Int) nu pl ah wf (updI wl (s : Int).toNat (oF A N s)) la := hS4
    show t_X d 61 79 lv9 [] g4 P
    refine t_2 ocl_79 rfl (w := (px_s1 lv9 2 (oI ((s : Int) + (-1))), [])) (pq_inc l2 (by decide)) ?_
    replace l0 : px_lg (px_s1 lv9 2 (oI ((s : Int) + (-1)))) 0 = some (pvR 189) := s1_ne (by decide) (fun _ => rfl) l0
    replace l1 : px_lg (px_s1 lv9 2 (oI ((s : Int) + (-1)))) 1 = some (oI (((2 ^ N - 1 : Nat) : Int))) := s1_ne (by decide) (fun _ => rfl) l1
    replace l3 : px_lg (px_s1 lv9 2 (oI ((s : Int) + (-1)))) 3 = some (oI (oF A N s)) := s1_ne (by decide) (fun _ => rfl) l3
    have l2 : px_lg (px_s1 lv9 2 (oI ((s : Int) + (-1)))) 2 = some (oI ((s : Int) + (-1))) := s1_eq
    generalize px_s1 lv9 2 (oI ((s : Int) + (-1))) = lv5 at l0 l1 l3 l2 ⊢
    show t_X d 61 82 lv5 [] g4 P
    refine t_1 ocl_82 rfl (pb_goto (pc := 82) (by decide)) ?_
    show t_X d 61 20 lv5 [] g4 P
    refine ih ((s : Int) + (-1)) _ (by omega) ⟨by omega, by omega⟩ (fun T h1 h2 => ?_) hS4 l0 l1 l2
    unfold updI
    by_cases e : T = s
    · rw [if_pos (by rw [e]; rfl), e]
    · rw [if_neg (fun z => e (by rw [z]; rfl))]; exact hw T (by omega) h2
set_option maxHeartbeats 1000000 in
theorem ocl_run {d N : Nat} (hd : 3 ≤ d) (hN : N ≤ 12) {A : Nat → Nat} {g0 : pH} {va vb vc : Int} {nu pl ah wf la : tC} (hA : oAh A N ah) {P : Option pv × pH → Prop} {g : pH} {wl : tC} (hS : oE g0 g va vb vc N nu pl ah wf wl la) (hP : ∀ (g : pH) (wl : tC), oE g0 g va vb vc N nu pl ah wf wl la → (∀ T : Nat, T < 2 ^ N → wl T = oF A N T) → P (none, g)) {lv : List (Nat × pv)} (l0 : px_lg lv 0 = some (pvR 189)) : t_X d 61 0 lv [] g P := by
  have hp := pw_12 hN
  have hp1 : 1 ≤ 2 ^ N := Nat.one_le_two_pow
  refine t_0 ocl_0 rfl rfl ?_
  refine t_0 ocl_1 rfl (ld_a l0) ?_
  refine t_0 ocl_2 rfl (pq_cv oeo_189 rfl (show cF g 189 3 = (N : Int) from S_f hS 3 (Nat.le_of_ble_eq_true rfl))) ?_
  show t_X d 61 5 lv [oI ((N : Int)), oI 1] g P
  refine t_0 ocl_5 rfl rfl ?_
  refine t_0 ocl_6 rfl rfl ?_
  refine t_0 ocl_7 rfl rfl ?_
  show t_X d 61 8 lv [.inl (((Int32.ofInt (1)) <<< ((Int32.ofInt ((N : Int))) &&& 31)) - (Int32.ofInt (1)))] g P
  rw [allC hN]
  show t_X d 61 8 lv [oI (((2 ^ N - 1 : Nat) : Int))] g P
  refine t_2 ocl_8 rfl (w := (px_s1 lv 1 (oI (((2 ^ N - 1 : Nat) : Int))), [])) rfl ?_
  replace l0 : px_lg (px_s1 lv 1 (oI (((2 ^ N - 1 : Nat) : Int)))) 0 = some (pvR 189) := s1_ne (by decide) (fun _ => rfl) l0
  have l1 : px_lg (px_s1 lv 1 (oI (((2 ^ N - 1 : Nat) : Int)))) 1 = some (oI (((2 ^ N - 1 : Nat) : Int))) := s1_eq
  generalize px_s1 lv 1 (oI (((2 ^ N - 1 : Nat) : Int))) = lv1 at l0 l1 ⊢
  show t_X d 61 9 lv1 [] g P
  refine t_0 ocl_9 rfl (ld_a l0) ?_
  refine t_0 ocl_10 rfl (ocq_189_8 (S_J hS).1) ?_
  show t_X d 61 13 lv1 [pvR 194] g P
  refine t_0 ocl_13 rfl (ld_i l1) ?_
  refine t_0 ocl_14 rfl rfl ?_
  refine ts_a (n := 4) rfl rfl (by decide) ocl_15 hS oez_194 rfl wu_jO_194 ogu_194 (by decide) ⟨by omega, by omega⟩ ⟨by omega, by omega⟩ (fun g2 hS2 => ?_)
  replace hS2 : oE g0 g2 va vb vc (N : Int) nu pl ah wf (updI wl ((2 ^ N - 1 : Nat) : Int).toNat 1) la := hS2
  show t_X d 61 16 lv1 [] g2 P
  refine t_0 ocl_16 rfl (ld_i l1) ?_
  refine t_0 ocl_17 rfl rfl ?_
  refine t_0 ocl_18 rfl pq_sub ?_
  refine t_2 ocl_19 rfl (w := (px_s1 lv1 2 (oI (((2 ^ N - 1 : Nat) : Int) - 1)), [])) rfl ?_
  replace l0 : px_lg (px_s1 lv1 2 (oI (((2 ^ N - 1 : Nat) : Int) - 1))) 0 = some (pvR 189) := s1_ne (by decide) (fun _ => rfl) l0
  replace l1 : px_lg (px_s1 lv1 2 (oI (((2 ^ N - 1 : Nat) : Int) - 1))) 1 = some (oI (((2 ^ N - 1 : Nat) : Int))) := s1_ne (by decide) (fun _ => rfl) l1
  have l2 : px_lg (px_s1 lv1 2 (oI (((2 ^ N - 1 : Nat) : Int) - 1))) 2 = some (oI (((2 ^ N - 1 : Nat) : Int) - 1)) := s1_eq
  generalize px_s1 lv1 2 (oI (((2 ^ N - 1 : Nat) : Int) - 1)) = lv3 at l0 l1 l2 ⊢
  show t_X d 61 20 lv3 [] g2 P
  refine oclL2 hd hN hA hP (2 ^ N) _ _ (by omega) ⟨by omega, by omega⟩ (fun T h1 h2 => ?_) hS2 l0 l1 l2
  have e : T = 2 ^ N - 1 := by omega
  unfold updI
  rw [if_pos (by rw [e]; rfl), oF_1 (by omega)]
set_option maxHeartbeats 2000000 in
theorem oadL1 {d N : Nat} (hN : N ≤ 12) {A : Nat → Nat} {g0 : pH} {va vb vc : Int} {nu pl ah wf wl : tC} {P : Option pv × pH → Prop} {s a : Nat} (hs : s < 2 ^ N) (ha : a < N) (hca : oc A a s = true) {mm : Int} (hmm : b32 mm = b32 (oW A N s s * oF A N (s ||| 2 ^ a))) (hP : ∀ (g : pH) (la : tC), oE g0 g va vb vc N nu pl ah wf wl la → oLa A N s (a + 1) la → P (none, g)) : ∀ (m b : Nat) (g : pH) {la : tC}, N - b ≤ m → a < b → b ≤ N → oLb A N s a b la → oE g0 g va vb vc N nu pl ah wf wl la → ∀ {lv : List (Nat × pv)}, px_lg lv 0 = some (pvR 189) → px_lg lv 1 = some (oI (a : Int)) → px_lg lv 2 = some (oI ((s ||| 2 ^ a : Nat) : Int)) → px_lg lv 3 = some (oI mm) → px_lg lv 4 = some (oI (b : Int)) → t_X d 57 23 lv [] g P := by
  have hp := pw_12 hN
  have hp1 : 1 ≤ 2 ^ N := Nat.one_le_two_pow
  have hx : s ||| 2 ^ a < 2 ^ N := ob_up hs ha
  intro m
  induction m with
  | zero =>
    intro b g la hm hab hb hw hS lv l0 l1 l2 l3 l4
    refine t_0 oad_23 rfl (ld_i l4) ?_
    refine t_0 oad_25 rfl (ld_a l0) ?_
    refine t_0 oad_26 rfl (pq_cv oeo_189 rfl (show cF g 189 3 = (N : Int) from S_f hS 3 (Nat.le_of_ble_eq_true rfl))) ?_
    show t_X d 57 29 lv [oI ((N : Int)), oI ((b : Int))] g P
    refine tb_ge oad_29 (by decide) ⟨by omega, by omega⟩ ⟨by omega, by omega⟩ (fun c1 => ?_) (fun c1 => absurd c1 (by omega))
    show t_X d 57 67 lv [] g P
    refine t_5 oad_67 rfl rfl ?_
    exact hP _ _ hS (fun x y h1 h2 => by rw [hw x y h1 h2]; congr 2; by_cases e : x = a; { subst e; rw [if_pos (by omega), if_pos (by omega)] }; { by_cases e2 : x < a; { rw [if_pos (by omega), if_pos (by omega)] }; { rw [if_neg (by omega), if_neg (by omega)] } })
  | succ m ih =>
    intro b g la hm hab hb hw hS lv l0 l1 l2 l3 l4
    by_cases hbN : b = N
    · refine t_0 oad_23 rfl (ld_i l4) ?_
      refine t_0 oad_25 rfl (ld_a l0) ?_
      refine t_0 oad_26 rfl (pq_cv oeo_189 rfl (show cF g 189 3 = (N : Int) from S_f hS 3 (Nat.le_of_ble_eq_true rfl))) ?_
      show t_X d 57 29 lv [oI ((N : Int)), oI ((b : Int))] g P
      refine tb_ge oad_29 (by decide) ⟨by omega, by omega⟩ ⟨by omega, by omega⟩ (fun c1 => ?_) (fun c1 => absurd c1 (by omega))
      show t_X d 57 67 lv [] g P
      refine t_5 oad_67 rfl rfl ?_
      exact hP _ _ hS (fun x y h1 h2 => by rw [hw x y h1 h2]; congr 2; by_cases e : x = a; { subst e; rw [if_pos (by omega), if_pos (by omega)] }; { by_cases e2 : x < a; { rw [if_pos (by omega), if_pos (by omega)] }; { rw [if_neg (by omega), if_neg (by omega)] } })
    refine t_0 oad_23 rfl (ld_i l4) ?_
    refine t_0 oad_25 rfl (ld_a l0) ?_
    refine t_0 oad_26 rfl (pq_cv oeo_189 rfl (show cF g 189 3 = (N : Int) from S_f hS 3 (Nat.le_of_ble_eq_true rfl))) ?_
    show t_X d 57 29 lv [oI ((N : Int)), oI ((b : Int))] g P
    refine tb_ge oad_29 (by decide) ⟨by omega, by omega⟩ ⟨by omega, by omega⟩ (fun c1 => absurd c1 (by omega)) (fun c1 => ?_)
    show t_X d 57 32 lv [] g P
    refine t_0 oad_32 rfl (ld_a l0) ?_
    refine t_0 oad_33 rfl (ocq_189_9 (S_J hS).1) ?_
    show t_X d 57 36 lv [pvR 195] g P
    refine t_0 oad_36 rfl (ld_i l1) ?_
    refine t_0 oad_37 rfl (pq_b (by decide)) ?_
    refine t_0 oad_39 rfl pq_mul ?_
    refine t_0 oad_40 rfl (ld_i l4) ?_
    refine t_0 oad_42 rfl pq_add ?_
    refine t_0 oad_43 rfl rfl ?_
    have r2 := pb_a (S_J hS).1 oez_195 (j := (((a : Int) * 12) + (b : Int)).toNat) (by omega) ogu_195 (show fA g 195 = la from S_a hS 5 (Nat.le_of_ble_eq_true rfl))
    refine t_0 oad_44 rfl (pq_iv oez_195 rfl ⟨by omega, by omega⟩ (show fA g 195 = la from S_a hS 5 (Nat.le_of_ble_eq_true rfl))) ?_
    show t_X d 57 45 lv [oI (la ((((a : Int) * 12) + (b : Int)).toNat)), oI (((a : Int) * 12) + (b : Int)), pvR 195] g P
    refine t_0 oad_45 rfl (ld_i l2) ?_
    refine t_0 oad_46 rfl (ld_i l4) ?_
    refine t_0 oad_48 rfl rfl ?_
    refine t_0 oad_49 rfl rfl ?_
    refine t_0 oad_50 rfl rfl ?_
    refine tx_ne oad_51 (by decide) (fun c3 => ?_) (fun c3 => ?_)
    · show t_X d 57 58 lv [oI (la ((((a : Int) * 12) + (b : Int)).toNat)), oI (((a : Int) * 12) + (b : Int)), pvR 195] g P
      have qb : s.testBit b = true := by
        have q1 : (s ||| 2 ^ a).testBit b = true := by
          cases q2 : (s ||| 2 ^ a).testBit b with
          | true => rfl
          | false => exact absurd ((oc_1 (by omega)).mpr q2) c3
        rw [ob_t, decide_eq_false (by omega), Bool.or_false] at q1
        exact q1
      refine t_0 oad_58 rfl rfl ?_
      refine t_0 oad_59 rfl pq_add ?_
      have bb := b32_b ((la ((((a : Int) * 12) + (b : Int)).toNat)) + 0)
      rw [b32_o ((la ((((a : Int) * 12) + (b : Int)).toNat)) + 0)]
      show t_X d 57 60 lv [oI (b32 ((la ((((a : Int) * 12) + (b : Int)).toNat)) + 0)), oI (((a : Int) * 12) + (b : Int)), pvR 195] g P
      refine ts_a (n := 5) rfl rfl (by decide) oad_60 hS oez_195 rfl wu_jO_195 ogu_195 (by decide) ⟨by omega, by omega⟩ ⟨by omega, by omega⟩ (fun g4 hS4 => ?_)
      replace hS4 : oE g0 g4 va vb vc (N : Int) nu pl ah wf wl (updI la (((a : Int) * 12) + (b : Int)).toNat (b32 ((la ((((a : Int) * 12) + (b : Int)).toNat)) + 0))) := hS4
      show t_X d 57 61 lv [] g4 P
      refine t_2 oad_61 rfl (w := (px_s1 lv 4 (oI ((b : Int) + 1)), [])) (pq_inc l4 (by decide)) ?_
      replace l0 : px_lg (px_s1 lv 4 (oI ((b : Int) + 1))) 0 = some (pvR 189) := s1_ne (by decide) (fun _ => rfl) l0
      replace l1 : px_lg (px_s1 lv 4 (oI ((b : Int) + 1))) 1 = some (oI ((a : Int))) := s1_ne (by decide) (fun _ => rfl) l1
      replace l2 : px_lg (px_s1 lv 4 (oI ((b : Int) + 1))) 2 = some (oI (((s ||| 2 ^ a : Nat) : Int))) := s1_ne (by decide) (fun _ => rfl) l2
      replace l3 : px_lg (px_s1 lv 4 (oI ((b : Int) + 1))) 3 = some (oI (mm)) := s1_ne (by decide) (fun _ => rfl) l3
      have l4 : px_lg (px_s1 lv 4 (oI ((b : Int) + 1))) 4 = some (oI ((b : Int) + 1)) := s1_eq
      generalize px_s1 lv 4 (oI ((b : Int) + 1)) = lv5 at l0 l1 l2 l3 l4 ⊢
      show t_X d 57 64 lv5 [] g4 P
      refine t_1 oad_64 rfl (pb_goto (pc := 64) (by decide)) ?_
      show t_X d 57 23 lv5 [] g4 P
      refine ih (b + 1) _ (by omega) (by omega) (by omega) (fun x y h1 h2 => ?_) hS4 l0 l1 l2 l3 l4
      unfold updI
      by_cases e : x = a ∧ y = b
      · obtain ⟨rfl, rfl⟩ := e
        have ei : 12 * x + y = ((x : Int) * 12 + (y : Int)).toNat := by omega
        have el : la ((x : Int) * 12 + (y : Int)).toNat = b32 (oQ A N x y s) := by
          rw [← ei, hw x y h1 h2, if_neg (by omega), Int.add_zero]
        rw [if_pos ei, el, if_pos (Or.inr ⟨rfl, by omega⟩)]
        rw [show oqt A N x y s = 0 from if_neg (fun z => by rw [z.2] at qb; cases qb), Int.add_zero, Int.add_zero, b32_i (b32_b _).1 (b32_b _).2]
      · rw [if_neg (fun z => e (by omega)), hw x y h1 h2]
        congr 2
        by_cases e2 : x < a ∨ (x = a ∧ y < b)
        · rw [if_pos e2, if_pos (by omega)]
        · rw [if_neg e2, if_neg (by omega)]
    · show t_X d 57 54 lv [oI (la ((((a : Int) * 12) + (b : Int)).toNat)), oI (((a : Int) * 12) + (b : Int)), pvR 195] g P
      have qb : s.testBit b = false := by
        have q1 := (oc_1 (by omega)).mp c3
        rw [ob_t, decide_eq_false (by omega), Bool.or_false] at q1
        exact q1
      refine t_0 oad_54 rfl (ld_i l3) ?_
      refine t_1 oad_55 rfl (pb_goto (pc := 55) (by decide)) ?_
      show t_X d 57 59 lv [oI (mm), oI (la ((((a : Int) * 12) + (b : Int)).toNat)), oI (((a : Int) * 12) + (b : Int)), pvR 195] g P
      refine t_0 oad_59 rfl pq_add ?_
      have bb := b32_b ((la ((((a : Int) * 12) + (b : Int)).toNat)) + mm)
      rw [b32_o ((la ((((a : Int) * 12) + (b : Int)).toNat)) + mm)]
      show t_X d 57 60 lv [oI (b32 ((la ((((a : Int) * 12) + (b : Int)).toNat)) + mm)), oI (((a : Int) * 12) + (b : Int)), pvR 195] g P
      refine ts_a (n := 5) rfl rfl (by decide) oad_60 hS oez_195 rfl wu_jO_195 ogu_195 (by decide) ⟨by omega, by omega⟩ ⟨by omega, by omega⟩ (fun g6 hS6 => ?_)
      replace hS6 : oE g0 g6 va vb vc (N : Int) nu pl ah wf wl (updI la (((a : Int) * 12) + (b : Int)).toNat (b32 ((la ((((a : Int) * 12) + (b : Int)).toNat)) + mm))) := hS6
      show t_X d 57 61 lv [] g6 P
      refine t_2 oad_61 rfl (w := (px_s1 lv 4 (oI ((b : Int) + 1)), [])) (pq_inc l4 (by decide)) ?_
      replace l0 : px_lg (px_s1 lv 4 (oI ((b : Int) + 1))) 0 = some (pvR 189) := s1_ne (by decide) (fun _ => rfl) l0
      replace l1 : px_lg (px_s1 lv 4 (oI ((b : Int) + 1))) 1 = some (oI ((a : Int))) := s1_ne (by decide) (fun _ => rfl) l1
      replace l2 : px_lg (px_s1 lv 4 (oI ((b : Int) + 1))) 2 = some (oI (((s ||| 2 ^ a : Nat) : Int))) := s1_ne (by decide) (fun _ => rfl) l2
      replace l3 : px_lg (px_s1 lv 4 (oI ((b : Int) + 1))) 3 = some (oI (mm)) := s1_ne (by decide) (fun _ => rfl) l3
      have l4 : px_lg (px_s1 lv 4 (oI ((b : Int) + 1))) 4 = some (oI ((b : Int) + 1)) := s1_eq
      generalize px_s1 lv 4 (oI ((b : Int) + 1)) = lv7 at l0 l1 l2 l3 l4 ⊢
      show t_X d 57 64 lv7 [] g6 P
      refine t_1 oad_64 rfl (pb_goto (pc := 64) (by decide)) ?_
      show t_X d 57 23 lv7 [] g6 P
      refine ih (b + 1) _ (by omega) (by omega) (by omega) (fun x y h1 h2 => ?_) hS6 l0 l1 l2 l3 l4
      unfold updI
      by_cases e : x = a ∧ y = b
      · obtain ⟨rfl, rfl⟩ := e
        have ei : 12 * x + y = ((x : Int) * 12 + (y : Int)).toNat := by omega
        have el : la ((x : Int) * 12 + (y : Int)).toNat = b32 (oQ A N x y s) := by
          rw [← ei, hw x y h1 h2, if_neg (by omega), Int.add_zero]
        rw [if_pos ei, el, if_pos (Or.inr ⟨rfl, by omega⟩)]
        rw [show oqt A N x y s = oW A N s s * oF A N (s ||| 2 ^ x) from if_pos ⟨hca, qb⟩, ← b32_a (x := oQ A N x y s) (y := oW A N s s * oF A N (s ||| 2 ^ x)), ← hmm, b32_a, b32_al]
      · rw [if_neg (fun z => e (by omega)), hw x y h1 h2]
        congr 2
        by_cases e2 : x < a ∨ (x = a ∧ y < b)
        · rw [if_pos e2, if_pos (by omega)]
        · rw [if_neg e2, if_neg (by omega)]
set_option maxHeartbeats 1000000 in
theorem oad_run {d N : Nat} (hN : N ≤ 12) {A : Nat → Nat} {g0 : pH} {va vb vc : Int} {nu pl ah wf wl : tC} {P : Option pv × pH → Prop} {s a : Nat} (hs : s < 2 ^ N) (ha : a < N) (hca : oc A a s = true) (hwf : wf s = b32 (oW A N s s)) (hwl : wl (s ||| 2 ^ a) = oF A N (s ||| 2 ^ a)) {g : pH} {la : tC} (hS : oE g0 g va vb vc N nu pl ah wf wl la) (hla : oLa A N s a la) (hP : ∀ (g : pH) (la : tC), oE g0 g va vb vc N nu pl ah wf wl la → oLa A N s (a + 1) la → P (none, g)) {lv : List (Nat × pv)} (l0 : px_lg lv 0 = some (pvR 189)) (l1 : px_lg lv 1 = some (oI (a : Int))) (l2 : px_lg lv 2 = some (oI ((s ||| 2 ^ a : Nat) : Int))) : t_X d 57 0 lv [] g P := by
  have hp := pw_12 hN
  have hp1 : 1 ≤ 2 ^ N := Nat.one_le_two_pow
  have hx : s ||| 2 ^ a < 2 ^ N := ob_up hs ha
  refine t_0 oad_0 rfl (ld_a l0) ?_
  refine t_0 oad_1 rfl (ocq_189_7 (S_J hS).1) ?_
  show t_X d 57 4 lv [pvR 193] g P
  refine t_0 oad_4 rfl (ld_i l2) ?_
  refine t_0 oad_5 rfl rfl ?_
  refine t_0 oad_6 rfl (ld_i l1) ?_
  refine t_0 oad_7 rfl rfl ?_
  refine t_0 oad_8 rfl (pq_xrx (s := s) (k := a) (by omega) (by omega) (oc_b hca)) ?_
  have r1 := pb_a (S_J hS).1 oez_193 (j := (s : Int).toNat) (by omega) ogu_193 (show fA g 193 = wf from S_a hS 3 (Nat.le_of_ble_eq_true rfl))
  refine t_0 oad_9 rfl (pq_iv oez_193 rfl ⟨by omega, by omega⟩ (show fA g 193 = wf from S_a hS 3 (Nat.le_of_ble_eq_true rfl))) ?_
  show t_X d 57 10 lv [oI (wf ((s : Int).toNat))] g P
  rw [show wf (s : Int).toNat = b32 (oW A N s s) from hwf]
  show t_X d 57 10 lv [oI (b32 (oW A N s s))] g P
  refine t_0 oad_10 rfl (ld_a l0) ?_
  refine t_0 oad_11 rfl (ocq_189_8 (S_J hS).1) ?_
  show t_X d 57 14 lv [pvR 194, oI (b32 (oW A N s s))] g P
  refine t_0 oad_14 rfl (ld_i l2) ?_
  have r2 := pb_a (S_J hS).1 oez_194 (j := ((s ||| 2 ^ a : Nat) : Int).toNat) (by omega) ogu_194 (show fA g 194 = wl from S_a hS 4 (Nat.le_of_ble_eq_true rfl))
  refine t_0 oad_15 rfl (pq_iv oez_194 rfl ⟨by omega, by omega⟩ (show fA g 194 = wl from S_a hS 4 (Nat.le_of_ble_eq_true rfl))) ?_
  show t_X d 57 16 lv [oI (wl (((s ||| 2 ^ a : Nat) : Int).toNat)), oI (b32 (oW A N s s))] g P
  rw [show wl ((s ||| 2 ^ a : Nat) : Int).toNat = oF A N (s ||| 2 ^ a) from hwl]
  show t_X d 57 16 lv [oI (oF A N (s ||| 2 ^ a)), oI (b32 (oW A N s s))] g P
  refine t_0 oad_16 rfl pq_mul ?_
  refine t_2 oad_17 rfl (w := (px_s1 lv 3 (oI ((b32 (oW A N s s)) * (oF A N (s ||| 2 ^ a)))), [])) rfl ?_
  replace l0 : px_lg (px_s1 lv 3 (oI ((b32 (oW A N s s)) * (oF A N (s ||| 2 ^ a))))) 0 = some (pvR 189) := s1_ne (by decide) (fun _ => rfl) l0
  replace l1 : px_lg (px_s1 lv 3 (oI ((b32 (oW A N s s)) * (oF A N (s ||| 2 ^ a))))) 1 = some (oI ((a : Int))) := s1_ne (by decide) (fun _ => rfl) l1
  replace l2 : px_lg (px_s1 lv 3 (oI ((b32 (oW A N s s)) * (oF A N (s ||| 2 ^ a))))) 2 = some (oI (((s ||| 2 ^ a : Nat) : Int))) := s1_ne (by decide) (fun _ => rfl) l2
  have l3 : px_lg (px_s1 lv 3 (oI ((b32 (oW A N s s)) * (oF A N (s ||| 2 ^ a))))) 3 = some (oI ((b32 (oW A N s s)) * (oF A N (s ||| 2 ^ a)))) := s1_eq
  generalize px_s1 lv 3 (oI ((b32 (oW A N s s)) * (oF A N (s ||| 2 ^ a)))) = lv3 at l0 l1 l2 l3 ⊢
  show t_X d 57 18 lv3 [] g P
  refine t_0 oad_18 rfl (ld_i l1) ?_
  refine t_0 oad_19 rfl rfl ?_
  refine t_0 oad_20 rfl pq_add ?_
  refine t_2 oad_21 rfl (w := (px_s1 lv3 4 (oI ((a : Int) + 1)), [])) rfl ?_
  replace l0 : px_lg (px_s1 lv3 4 (oI ((a : Int) + 1))) 0 = some (pvR 189) := s1_ne (by decide) (fun _ => rfl) l0
  replace l1 : px_lg (px_s1 lv3 4 (oI ((a : Int) + 1))) 1 = some (oI ((a : Int))) := s1_ne (by decide) (fun _ => rfl) l1
  replace l2 : px_lg (px_s1 lv3 4 (oI ((a : Int) + 1))) 2 = some (oI (((s ||| 2 ^ a : Nat) : Int))) := s1_ne (by decide) (fun _ => rfl) l2
  replace l3 : px_lg (px_s1 lv3 4 (oI ((a : Int) + 1))) 3 = some (oI ((b32 (oW A N s s)) * (oF A N (s ||| 2 ^ a)))) := s1_ne (by decide) (fun _ => rfl) l3
  have l4 : px_lg (px_s1 lv3 4 (oI ((a : Int) + 1))) 4 = some (oI ((a : Int) + 1)) := s1_eq
  generalize px_s1 lv3 4 (oI ((a : Int) + 1)) = lv4 at l0 l1 l2 l3 l4 ⊢
  show t_X d 57 23 lv4 [] g P
  exact oadL1 hN hs ha hca (by rw [← b32_m, b32_i (x := b32 (oW A N s s)) (b32_b _).1 (b32_b _).2, b32_m]) hP N (a + 1) _ (by omega) (by omega) (by omega) (fun x y h1 h2 => by rw [hla x y h1 h2]; congr 2; by_cases e : x < a; { rw [if_pos e, if_pos (Or.inl e)] }; { rw [if_neg e, if_neg (by omega)] }) hS l0 l1 l2 l3 l4
set_option maxHeartbeats 2000000 in
theorem ocwL3 {d N : Nat} (hd : 3 ≤ d) (hN : N ≤ 12) {A : Nat → Nat} {g0 : pH} {va vb vc : Int} {nu pl ah wf wl : tC} (hA : oAh A N ah) (hwf : ∀ T : Nat, T < 2 ^ N → wf T = b32 (oW A N (2 ^ N - 1) T)) (hwl : ∀ T : Nat, T < 2 ^ N → wl T = oF A N T) {P : Option pv × pH → Prop} {s : Nat} (hs : s + 1 < 2 ^ N) (hC : ∀ (g : pH) (la : tC), oE g0 g va vb vc N nu pl ah wf wl la → oLa A N (s + 1) 0 la → ∀ {lv : List (Nat × pv)}, px_lg lv 0 = some (pvR 189) → px_lg lv 1 = some (oI ((2 ^ N - 1 : Nat) : Int)) → px_lg lv 2 = some (oI (s : Int)) → t_X d 62 84 lv [] g P) : ∀ (m k : Nat) (g : pH) {la : tC}, N - k ≤ m → k ≤ N → oLa A N s k la → oE g0 g va vb vc N nu pl ah wf wl la → ∀ {lv : List (Nat × pv)}, px_lg lv 0 = some (pvR 189) → px_lg lv 1 = some (oI ((2 ^ N - 1 : Nat) : Int)) → px_lg lv 2 = some (oI (s : Int)) → px_lg lv 3 = some (oI (k : Int)) → t_X d 62 42 lv [] g P := by
  have hp := pw_12 hN
  have hp1 : 1 ≤ 2 ^ N := Nat.one_le_two_pow
  have hws : wf s = b32 (oW A N s s) := by rw [hwf s (by omega), oW_t (by omega)]
  intro m
  induction m with
  | zero =>
    intro k g la hm hk hla hS lv l0 l1 l2 l3
    have hkN : k = N := by omega
    refine t_0 ocw_42 rfl (ld_i l3) ?_
    refine t_0 ocw_43 rfl (ld_a l0) ?_
    refine t_0 ocw_44 rfl (pq_cv oeo_189 rfl (show cF g 189 3 = (N : Int) from S_f hS 3 (Nat.le_of_ble_eq_true rfl))) ?_
    show t_X d 62 47 lv [oI ((N : Int)), oI ((k : Int))] g P
    refine tb_ge ocw_47 (by decide) ⟨by omega, by omega⟩ ⟨by omega, by omega⟩ (fun c1 => ?_) (fun c1 => absurd c1 (by omega))
    show t_X d 62 84 lv [] g P
    exact hC _ _ hS (fun x y h1 h2 => by rw [hla x y h1 h2, oQ_s, if_pos (by omega), if_neg (Nat.not_lt_zero _), Int.add_zero]) l0 l1 l2
  | succ m ih =>
    intro k g la hm hk hla hS lv l0 l1 l2 l3
    by_cases hkN : k = N
    · refine t_0 ocw_42 rfl (ld_i l3) ?_
      refine t_0 ocw_43 rfl (ld_a l0) ?_
      refine t_0 ocw_44 rfl (pq_cv oeo_189 rfl (show cF g 189 3 = (N : Int) from S_f hS 3 (Nat.le_of_ble_eq_true rfl))) ?_
      show t_X d 62 47 lv [oI ((N : Int)), oI ((k : Int))] g P
      refine tb_ge ocw_47 (by decide) ⟨by omega, by omega⟩ ⟨by omega, by omega⟩ (fun c1 => ?_) (fun c1 => absurd c1 (by omega))
      show t_X d 62 84 lv [] g P
      exact hC _ _ hS (fun x y h1 h2 => by rw [hla x y h1 h2, oQ_s, if_pos (by omega), if_neg (Nat.not_lt_zero _), Int.add_zero]) l0 l1 l2
    have hx : s ||| 2 ^ k < 2 ^ N := ob_up (by omega) (by omega)
    refine t_0 ocw_42 rfl (ld_i l3) ?_
    refine t_0 ocw_43 rfl (ld_a l0) ?_
    refine t_0 ocw_44 rfl (pq_cv oeo_189 rfl (show cF g 189 3 = (N : Int) from S_f hS 3 (Nat.le_of_ble_eq_true rfl))) ?_
    show t_X d 62 47 lv [oI ((N : Int)), oI ((k : Int))] g P
    refine tb_ge ocw_47 (by decide) ⟨by omega, by omega⟩ ⟨by omega, by omega⟩ (fun c1 => absurd c1 (by omega)) (fun c1 => ?_)
    show t_X d 62 50 lv [] g P
    refine t_0 ocw_50 rfl (ld_a l0) ?_
    refine t_0 ocw_51 rfl (ocq_189_7 (S_J hS).1) ?_
    show t_X d 62 54 lv [pvR 193] g P
    refine t_0 ocw_54 rfl (ld_i l2) ?_
    have r2 := pb_a (S_J hS).1 oez_193 (j := (s : Int).toNat) (by omega) ogu_193 (show fA g 193 = wf from S_a hS 3 (Nat.le_of_ble_eq_true rfl))
    refine t_0 ocw_55 rfl (pq_iv oez_193 rfl ⟨by omega, by omega⟩ (show fA g 193 = wf from S_a hS 3 (Nat.le_of_ble_eq_true rfl))) ?_
    show t_X d 62 56 lv [oI (wf ((s : Int).toNat))] g P
    refine tz_eq ocw_56 (by decide) ⟨by omega, by omega⟩ (fun c3 => ?_) (fun c3 => ?_)
    · show t_X d 62 84 lv [] g P
      have hz : b32 (oW A N s s) = 0 := by rw [← hws]; exact c3
      have hz2 : ∀ x y : Nat, ∃ q : Int, oqt A N x y s = q * oW A N s s := fun x y => by
        unfold oqt
        by_cases e : oc A x s = true ∧ s.testBit y = false
        · exact ⟨oF A N (s ||| 2 ^ x), by rw [if_pos e, Int.mul_comm]⟩
        · exact ⟨0, by rw [if_neg e, Int.zero_mul]⟩
      refine hC _ _ hS (fun x y h1 h2 => ?_) l0 l1 l2
      obtain ⟨q, hq⟩ := hz2 x y
      rw [hla x y h1 h2, oQ_s, if_neg (Nat.not_lt_zero _), Int.add_zero, hq, b32_z hz]
      by_cases e : x < k
      · rw [if_pos e, b32_z hz]
      · rw [if_neg e, Int.add_zero]
    · show t_X d 62 59 lv [] g P
      refine t_0 ocw_59 rfl (ld_a l0) ?_
      refine t_0 ocw_60 rfl (ld_i l3) ?_
      refine t_0 ocw_61 rfl (ld_i l2) ?_
      refine t_3 ocw_62 rfl (ar := ([pvR 189, oI ((k : Int)), oI ((s : Int))], [])) (pcal_w (as := [oI ((s : Int)), oI ((k : Int))]) rfl rfl rfl oeo_189) ⟨by omega, Nat.le_of_ble_eq_true rfl, Nat.le_of_ble_eq_true rfl, rfl⟩ ?_
      refine ocf_run hS (A := A) (k := k) (S := s) (by omega) (by omega) (hA k (by omega)).1 (hA k (by omega)).2 (fun t4 => ?_) (fun t4 => ?_) rfl rfl rfl
      · show t_X d 62 65 lv [oI 1] g P
        refine tz_eq ocw_65 (by decide) ⟨by omega, by omega⟩ (fun c5 => absurd c5 (by omega)) (fun c5 => ?_)
        show t_X d 62 68 lv [] g P
        refine t_0 ocw_68 rfl (ld_a l0) ?_
        refine t_0 ocw_69 rfl (ld_i l3) ?_
        refine t_0 ocw_70 rfl (ld_i l2) ?_
        refine t_0 ocw_71 rfl rfl ?_
        refine t_0 ocw_72 rfl (ld_i l3) ?_
        refine t_0 ocw_73 rfl rfl ?_
        refine t_0 ocw_74 rfl (pq_orx (s := s) (k := k) (by omega) (by omega)) ?_
        refine t_3 ocw_75 rfl (ar := ([pvR 189, oI ((k : Int)), oI (((s ||| 2 ^ k : Nat) : Int))], [])) (pcal_w (as := [oI (((s ||| 2 ^ k : Nat) : Int)), oI ((k : Int))]) rfl rfl rfl oeo_189) ⟨by omega, Nat.le_of_ble_eq_true rfl, Nat.le_of_ble_eq_true rfl, rfl⟩ ?_
        refine oad_run hN (A := A) (s := s) (a := k) (by omega) (by omega) t4 hws (hwl _ hx) hS hla (fun g6 la6 hS6 hla6 => ?_) rfl rfl rfl
        show t_X d 62 78 lv [] g6 P
        refine t_2 ocw_78 rfl (w := (px_s1 lv 3 (oI ((k : Int) + 1)), [])) (pq_inc l3 (by decide)) ?_
        replace l0 : px_lg (px_s1 lv 3 (oI ((k : Int) + 1))) 0 = some (pvR 189) := s1_ne (by decide) (fun _ => rfl) l0
        replace l1 : px_lg (px_s1 lv 3 (oI ((k : Int) + 1))) 1 = some (oI (((2 ^ N - 1 : Nat) : Int))) := s1_ne (by decide) (fun _ => rfl) l1
        replace l2 : px_lg (px_s1 lv 3 (oI ((k : Int) + 1))) 2 = some (oI ((s : Int))) := s1_ne (by decide) (fun _ => rfl) l2
        have l3 : px_lg (px_s1 lv 3 (oI ((k : Int) + 1))) 3 = some (oI ((k : Int) + 1)) := s1_eq
        generalize px_s1 lv 3 (oI ((k : Int) + 1)) = lv7 at l0 l1 l2 l3 ⊢
        show t_X d 62 81 lv7 [] g6 P
        refine t_1 ocw_81 rfl (pb_goto (pc := 81) (by decide)) ?_
        show t_X d 62 42 lv7 [] g6 P
        exact ih (k + 1) _ (by omega) (by omega) hla6 hS6 l0 l1 l2 l3
      · show t_X d 62 65 lv [oI 0] g P
        refine tz_eq ocw_65 (by decide) ⟨by omega, by omega⟩ (fun c8 => ?_) (fun c8 => absurd c8 (by omega))
        show t_X d 62 78 lv [] g P
        refine t_2 ocw_78 rfl (w := (px_s1 lv 3 (oI ((k : Int) + 1)), [])) (pq_inc l3 (by decide)) ?_
        replace l0 : px_lg (px_s1 lv 3 (oI ((k : Int) + 1))) 0 = some (pvR 189) := s1_ne (by decide) (fun _ => rfl) l0
        replace l1 : px_lg (px_s1 lv 3 (oI ((k : Int) + 1))) 1 = some (oI (((2 ^ N - 1 : Nat) : Int))) := s1_ne (by decide) (fun _ => rfl) l1
        replace l2 : px_lg (px_s1 lv 3 (oI ((k : Int) + 1))) 2 = some (oI ((s : Int))) := s1_ne (by decide) (fun _ => rfl) l2
        have l3 : px_lg (px_s1 lv 3 (oI ((k : Int) + 1))) 3 = some (oI ((k : Int) + 1)) := s1_eq
        generalize px_s1 lv 3 (oI ((k : Int) + 1)) = lv9 at l0 l1 l2 l3 ⊢
        show t_X d 62 81 lv9 [] g P
        refine t_1 ocw_81 rfl (pb_goto (pc := 81) (by decide)) ?_
        show t_X d 62 42 lv9 [] g P
        exact ih (k + 1) _ (by omega) (by omega) (fun x y h1 h2 => by rw [hla x y h1 h2]; congr 2; by_cases e : x < k; { rw [if_pos e, if_pos (by omega)] }; { rw [if_neg e]; by_cases e2 : x = k; { rw [if_pos (by omega)]; exact (if_neg (fun z => by rw [e2, t4] at z; exact absurd z.1 (by decide))).symm }; { rw [if_neg (by omega)] } }) hS l0 l1 l2 l3
set_option maxHeartbeats 1000000 in
theorem ocwL2 {d N : Nat} (hd : 3 ≤ d) (hN : N ≤ 12) {A : Nat → Nat} {g0 : pH} {va vb vc : Int} {nu pl ah wf wl : tC} (hA : oAh A N ah) (hwf : ∀ T : Nat, T < 2 ^ N → wf T = b32 (oW A N (2 ^ N - 1) T)) (hwl : ∀ T : Nat, T < 2 ^ N → wl T = oF A N T) {P : Option pv × pH → Prop} (hP : ∀ (g : pH) (la : tC), oE g0 g va vb vc N nu pl ah wf wl la → (∀ x y : Nat, x < y → y < N → la (12 * x + y) = b32 (oQ A N x y (2 ^ N - 1))) → P (none, g)) : ∀ (m s : Nat) (g : pH) {la : tC}, 2 ^ N - 1 - s ≤ m → s ≤ 2 ^ N - 1 → oLa A N s 0 la → oE g0 g va vb vc N nu pl ah wf wl la → ∀ {lv : List (Nat × pv)}, px_lg lv 0 = some (pvR 189) → px_lg lv 1 = some (oI ((2 ^ N - 1 : Nat) : Int)) → px_lg lv 2 = some (oI (s : Int)) → t_X d 62 35 lv [] g P := by
  have hp := pw_12 hN
  have hp1 : 1 ≤ 2 ^ N := Nat.one_le_two_pow
  intro m
  induction m with
  | zero =>
    intro s g la hm hs hla hS lv l0 l1 l2
    have hsN : s = 2 ^ N - 1 := by omega
    refine t_0 ocw_35 rfl (ld_i l2) ?_
    refine t_0 ocw_36 rfl (ld_i l1) ?_
    refine tb_ge ocw_37 (by decide) ⟨by omega, by omega⟩ ⟨by omega, by omega⟩ (fun c1 => ?_) (fun c1 => absurd c1 (by omega))
    show t_X d 62 90 lv [] g P
    refine t_5 ocw_90 rfl rfl ?_
    exact hP _ _ hS (fun x y h1 h2 => by rw [hla x y h1 h2, if_neg (Nat.not_lt_zero _), Int.add_zero, hsN])
  | succ m ih =>
    intro s g la hm hs hla hS lv l0 l1 l2
    by_cases hsN : s = 2 ^ N - 1
    · refine t_0 ocw_35 rfl (ld_i l2) ?_
      refine t_0 ocw_36 rfl (ld_i l1) ?_
      refine tb_ge ocw_37 (by decide) ⟨by omega, by omega⟩ ⟨by omega, by omega⟩ (fun c1 => ?_) (fun c1 => absurd c1 (by omega))
      show t_X d 62 90 lv [] g P
      refine t_5 ocw_90 rfl rfl ?_
      exact hP _ _ hS (fun x y h1 h2 => by rw [hla x y h1 h2, if_neg (Nat.not_lt_zero _), Int.add_zero, hsN])
    refine t_0 ocw_35 rfl (ld_i l2) ?_
    refine t_0 ocw_36 rfl (ld_i l1) ?_
    refine tb_ge ocw_37 (by decide) ⟨by omega, by omega⟩ ⟨by omega, by omega⟩ (fun c1 => absurd c1 (by omega)) (fun c1 => ?_)
    show t_X d 62 40 lv [] g P
    refine t_0 ocw_40 rfl rfl ?_
    refine t_2 ocw_41 rfl (w := (px_s1 lv 3 (oI 0), [])) rfl ?_
    replace l0 : px_lg (px_s1 lv 3 (oI 0)) 0 = some (pvR 189) := s1_ne (by decide) (fun _ => rfl) l0
    replace l1 : px_lg (px_s1 lv 3 (oI 0)) 1 = some (oI (((2 ^ N - 1 : Nat) : Int))) := s1_ne (by decide) (fun _ => rfl) l1
    replace l2 : px_lg (px_s1 lv 3 (oI 0)) 2 = some (oI ((s : Int))) := s1_ne (by decide) (fun _ => rfl) l2
    have l3 : px_lg (px_s1 lv 3 (oI 0)) 3 = some (oI 0) := s1_eq
    generalize px_s1 lv 3 (oI 0) = lv2 at l0 l1 l2 l3 ⊢
    show t_X d 62 42 lv2 [] g P
    refine ocwL3 hd hN hA hwf hwl (by omega) (fun g9 la9 hS9 hla9 {lv9} l0 l1 l2 => ?_) N 0 _ (by omega) (by omega) hla hS l0 l1 l2 l3
    show t_X d 62 84 lv9 [] g9 P
    refine t_2 ocw_84 rfl (w := (px_s1 lv9 2 (oI ((s : Int) + 1)), [])) (pq_inc l2 (by decide)) ?_
    replace l0 : px_lg (px_s1 lv9 2 (oI ((s : Int) + 1))) 0 = some (pvR 189) := s1_ne (by decide) (fun _ => rfl) l0
    replace l1 : px_lg (px_s1 lv9 2 (oI ((s : Int) + 1))) 1 = some (oI (((2 ^ N - 1 : Nat) : Int))) := s1_ne (by decide) (fun _ => rfl) l1
    have l2 : px_lg (px_s1 lv9 2 (oI ((s : Int) + 1))) 2 = some (oI ((s : Int) + 1)) := s1_eq
    generalize px_s1 lv9 2 (oI ((s : Int) + 1)) = lv3 at l0 l1 l2 ⊢
    show t_X d 62 87 lv3 [] g9 P
    refine t_1 ocw_87 rfl (pb_goto (pc := 87) (by decide)) ?_
    show t_X d 62 35 lv3 [] g9 P
    exact ih (s + 1) _ (by omega) (by omega) hla9 hS9 l0 l1 l2
set_option maxHeartbeats 1000000 in
theorem ocwL1 {d N : Nat} {g0 : pH} {va vb vc : Int} {nu pl ah wf wl : tC} {P : Option pv × pH → Prop} (hC : ∀ (g : pH) (la : tC), oE g0 g va vb vc N nu pl ah wf wl la → (∀ T : Nat, T < 144 → la T = 0) → ∀ {lv : List (Nat × pv)}, px_lg lv 0 = some (pvR 189) → t_X d 62 24 lv [] g P) : ∀ (m i : Nat) (g : pH) {la : tC}, 144 - i ≤ m → i ≤ 144 → (∀ T : Nat, T < i → la T = 0) → oE g0 g va vb vc N nu pl ah wf wl la → ∀ {lv : List (Nat × pv)}, px_lg lv 0 = some (pvR 189) → px_lg lv 1 = some (oI (i : Int)) → t_X d 62 2 lv [] g P := by
  intro m
  induction m with
  | zero =>
    intro i g la hm hi hz hS lv l0 l1
    refine t_0 ocw_2 rfl (ld_i l1) ?_
    refine t_0 ocw_3 rfl (ld_a l0) ?_
    refine t_0 ocw_4 rfl (ocq_189_9 (S_J hS).1) ?_
    show t_X d 62 7 lv [pvR 195, oI ((i : Int))] g P
    refine t_0 ocw_7 rfl (pq_ln oez_195 rfl) ?_
    show t_X d 62 8 lv [oI 144, oI ((i : Int))] g P
    refine tb_ge ocw_8 (by decide) ⟨by omega, by omega⟩ ⟨by omega, by omega⟩ (fun c1 => ?_) (fun c1 => absurd c1 (by omega))
    show t_X d 62 24 lv [] g P
    have hz9 : ∀ T : Nat, T < 144 → la T = 0 := fun T h2 => hz T (by omega)
    exact hC _ _ hS hz9 l0
  | succ m ih =>
    intro i g la hm hi hz hS lv l0 l1
    by_cases hiN : i = 144
    · refine t_0 ocw_2 rfl (ld_i l1) ?_
      refine t_0 ocw_3 rfl (ld_a l0) ?_
      refine t_0 ocw_4 rfl (ocq_189_9 (S_J hS).1) ?_
      show t_X d 62 7 lv [pvR 195, oI ((i : Int))] g P
      refine t_0 ocw_7 rfl (pq_ln oez_195 rfl) ?_
      show t_X d 62 8 lv [oI 144, oI ((i : Int))] g P
      refine tb_ge ocw_8 (by decide) ⟨by omega, by omega⟩ ⟨by omega, by omega⟩ (fun c1 => ?_) (fun c1 => absurd c1 (by omega))
      show t_X d 62 24 lv [] g P
      have hz9 : ∀ T : Nat, T < 144 → la T = 0 := fun T h2 => hz T (by omega)
      exact hC _ _ hS hz9 l0
    refine t_0 ocw_2 rfl (ld_i l1) ?_
    refine t_0 ocw_3 rfl (ld_a l0) ?_
    refine t_0 ocw_4 rfl (ocq_189_9 (S_J hS).1) ?_
    show t_X d 62 7 lv [pvR 195, oI ((i : Int))] g P
    refine t_0 ocw_7 rfl (pq_ln oez_195 rfl) ?_
    show t_X d 62 8 lv [oI 144, oI ((i : Int))] g P
    refine tb_ge ocw_8 (by decide) ⟨by omega, by omega⟩ ⟨by omega, by omega⟩ (fun c1 => absurd c1 (by omega)) (fun c1 => ?_)
    show t_X d 62 11 lv [] g P
    refine t_0 ocw_11 rfl (ld_a l0) ?_
    refine t_0 ocw_12 rfl (ocq_189_9 (S_J hS).1) ?_
    show t_X d 62 15 lv [pvR 195] g P
    refine t_0 ocw_15 rfl (ld_i l1) ?_
    refine t_0 ocw_16 rfl rfl ?_
    refine ts_a (n := 5) rfl rfl (by decide) ocw_17 hS oez_195 rfl wu_jO_195 ogu_195 (by decide) ⟨by omega, by omega⟩ ⟨by omega, by omega⟩ (fun g2 hS2 => ?_)
    replace hS2 : oE g0 g2 va vb vc (N : Int) nu pl ah wf wl (updI la (i : Int).toNat 0) := hS2
    show t_X d 62 18 lv [] g2 P
    refine t_2 ocw_18 rfl (w := (px_s1 lv 1 (oI ((i : Int) + 1)), [])) (pq_inc l1 (by decide)) ?_
    replace l0 : px_lg (px_s1 lv 1 (oI ((i : Int) + 1))) 0 = some (pvR 189) := s1_ne (by decide) (fun _ => rfl) l0
    have l1 : px_lg (px_s1 lv 1 (oI ((i : Int) + 1))) 1 = some (oI ((i : Int) + 1)) := s1_eq
    generalize px_s1 lv 1 (oI ((i : Int) + 1)) = lv3 at l0 l1 ⊢
    show t_X d 62 21 lv3 [] g2 P
    refine t_1 ocw_21 rfl (pb_goto (pc := 21) (by decide)) ?_
    show t_X d 62 2 lv3 [] g2 P
    refine ih (i + 1) _ (by omega) (by omega) (fun T h1 => ?_) hS2 l0 l1
    unfold updI
    by_cases e : T = i
    · rw [if_pos (by rw [e]; rfl)]
    · rw [if_neg (fun z => e (by rw [z]; rfl))]; exact hz T (by omega)
set_option maxHeartbeats 1000000 in
theorem ocw_run {d N : Nat} (hd : 3 ≤ d) (hN : N ≤ 12) {A : Nat → Nat} {g0 : pH} {va vb vc : Int} {nu pl ah wf wl : tC} (hA : oAh A N ah) (hwf : ∀ T : Nat, T < 2 ^ N → wf T = b32 (oW A N (2 ^ N - 1) T)) (hwl : ∀ T : Nat, T < 2 ^ N → wl T = oF A N T) {P : Option pv × pH → Prop} {g : pH} {la : tC} (hS : oE g0 g va vb vc N nu pl ah wf wl la) (hP : ∀ (g : pH) (la : tC), oE g0 g va vb vc N nu pl ah wf wl la → (∀ x y : Nat, x < y → y < N → la (12 * x + y) = b32 (oQ A N x y (2 ^ N - 1))) → P (none, g)) {lv : List (Nat × pv)} (l0 : px_lg lv 0 = some (pvR 189)) : t_X d 62 0 lv [] g P := by
  have hp := pw_12 hN
  have hp1 : 1 ≤ 2 ^ N := Nat.one_le_two_pow
  refine t_0 ocw_0 rfl rfl ?_
  refine t_2 ocw_1 rfl (w := (px_s1 lv 1 (oI 0), [])) rfl ?_
  replace l0 : px_lg (px_s1 lv 1 (oI 0)) 0 = some (pvR 189) := s1_ne (by decide) (fun _ => rfl) l0
  have l1 : px_lg (px_s1 lv 1 (oI 0)) 1 = some (oI 0) := s1_eq
  generalize px_s1 lv 1 (oI 0) = lv1 at l0 l1 ⊢
  show t_X d 62 2 lv1 [] g P
  refine ocwL1 (fun g9 la9 hS9 hz9 {lv9} l0 => ?_) 144 0 _ (by omega) (by omega) (fun T h1 => absurd h1 (by omega)) hS l0 l1
  show t_X d 62 24 lv9 [] g9 P
  refine t_0 ocw_24 rfl rfl ?_
  refine t_0 ocw_25 rfl (ld_a l0) ?_
  refine t_0 ocw_26 rfl (pq_cv oeo_189 rfl (show cF g9 189 3 = (N : Int) from S_f hS9 3 (Nat.le_of_ble_eq_true rfl))) ?_
  show t_X d 62 29 lv9 [oI ((N : Int)), oI 1] g9 P
  refine t_0 ocw_29 rfl rfl ?_
  refine t_0 ocw_30 rfl rfl ?_
  refine t_0 ocw_31 rfl rfl ?_
  show t_X d 62 32 lv9 [.inl (((Int32.ofInt (1)) <<< ((Int32.ofInt ((N : Int))) &&& 31)) - (Int32.ofInt (1)))] g9 P
  rw [allC hN]
  show t_X d 62 32 lv9 [oI (((2 ^ N - 1 : Nat) : Int))] g9 P
  refine t_2 ocw_32 rfl (w := (px_s1 lv9 1 (oI (((2 ^ N - 1 : Nat) : Int))), [])) rfl ?_
  replace l0 : px_lg (px_s1 lv9 1 (oI (((2 ^ N - 1 : Nat) : Int)))) 0 = some (pvR 189) := s1_ne (by decide) (fun _ => rfl) l0
  have l1 : px_lg (px_s1 lv9 1 (oI (((2 ^ N - 1 : Nat) : Int)))) 1 = some (oI (((2 ^ N - 1 : Nat) : Int))) := s1_eq
  generalize px_s1 lv9 1 (oI (((2 ^ N - 1 : Nat) : Int))) = lv2 at l0 l1 ⊢
  show t_X d 62 33 lv2 [] g9 P
  refine t_0 ocw_33 rfl rfl ?_
  refine t_2 ocw_34 rfl (w := (px_s1 lv2 2 (oI 0), [])) rfl ?_
  replace l0 : px_lg (px_s1 lv2 2 (oI 0)) 0 = some (pvR 189) := s1_ne (by decide) (fun _ => rfl) l0
  replace l1 : px_lg (px_s1 lv2 2 (oI 0)) 1 = some (oI (((2 ^ N - 1 : Nat) : Int))) := s1_ne (by decide) (fun _ => rfl) l1
  have l2 : px_lg (px_s1 lv2 2 (oI 0)) 2 = some (oI 0) := s1_eq
  generalize px_s1 lv2 2 (oI 0) = lv3 at l0 l1 l2 ⊢
  show t_X d 62 35 lv3 [] g9 P
  exact ocwL2 hd hN hA hwf hwl hP (2 ^ N) 0 _ (by omega) (by omega) (fun x y h1 h2 => by rw [hz9 _ (by omega), if_neg (Nat.not_lt_zero _), Int.add_zero]; exact (b32_i (by decide) (by decide)).symm) hS9 l0 l1 l2
