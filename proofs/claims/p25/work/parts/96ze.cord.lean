/-! orders of the class, exactly: taking (printed by wip/e2/x4.py) -/
theorem ohs_0 : xe_look (xc 65) 0 = some (.iload_n 1, 1, 0, 0, 0) := by decide +kernel
theorem ohs_1 : xe_look (xc 65) 1 = some (.iconst 0, 1, 0, 0, 0) := by decide +kernel
theorem ohs_2 : xe_look (xc 65) 2 = some (.bipush 31, 2, 0, 0, 0) := by decide +kernel
theorem ohs_4 : xe_look (xc 65) 4 = some (.invokestatic 66, 3, 1, 124, 4) := by decide +kernel
theorem ohs_7 : xe_look (xc 65) 7 = some (.ifCond .eq 17, 3, 0, 0, 0) := by decide +kernel
theorem ohs_10 : xe_look (xc 65) 10 = some (.aload_n 0, 1, 0, 0, 0) := by decide +kernel
theorem ohs_11 : xe_look (xc 65) 11 = some (.getfield 15, 3, 5, 5, 884) := by decide +kernel
theorem ohs_14 : xe_look (xc 65) 14 = some (.iload_n 1, 1, 0, 0, 0) := by decide +kernel
theorem ohs_15 : xe_look (xc 65) 15 = some (.iaload, 1, 0, 0, 0) := by decide +kernel
theorem ohs_16 : xe_look (xc 65) 16 = some (.iconst (-1), 1, 0, 0, 0) := by decide +kernel
theorem ohs_17 : xe_look (xc 65) 17 = some (.if_icmp .eq 7, 3, 0, 0, 0) := by decide +kernel
theorem ohs_20 : xe_look (xc 65) 20 = some (.iconst 1, 1, 0, 0, 0) := by decide +kernel
theorem ohs_21 : xe_look (xc 65) 21 = some (.goto 4, 3, 0, 0, 0) := by decide +kernel
theorem ohs_24 : xe_look (xc 65) 24 = some (.iconst 0, 1, 0, 0, 0) := by decide +kernel
theorem ohs_25 : xe_look (xc 65) 25 = some (.ireturn, 1, 0, 0, 0) := by decide +kernel
theorem otc_0 : xe_look (xc 68) 0 = some (.iconst 0, 1, 0, 0, 0) := by decide +kernel
theorem otc_1 : xe_look (xc 68) 1 = some (.istore_n 2, 1, 0, 0, 0) := by decide +kernel
theorem otc_2 : xe_look (xc 68) 2 = some (.iload_n 2, 1, 0, 0, 0) := by decide +kernel
theorem otc_3 : xe_look (xc 68) 3 = some (.aload_n 1, 1, 0, 0, 0) := by decide +kernel
theorem otc_4 : xe_look (xc 68) 4 = some (.getfield 53, 3, 6, 2, 900) := by decide +kernel
theorem otc_7 : xe_look (xc 68) 7 = some (.if_icmp .ge 67, 3, 0, 0, 0) := by decide +kernel
theorem otc_10 : xe_look (xc 68) 10 = some (.aload_n 0, 1, 0, 0, 0) := by decide +kernel
theorem otc_11 : xe_look (xc 68) 11 = some (.aload_n 1, 1, 0, 0, 0) := by decide +kernel
theorem otc_12 : xe_look (xc 68) 12 = some (.getfield 56, 3, 6, 0, 901) := by decide +kernel
theorem otc_15 : xe_look (xc 68) 15 = some (.iload_n 2, 1, 0, 0, 0) := by decide +kernel
theorem otc_16 : xe_look (xc 68) 16 = some (.iaload, 1, 0, 0, 0) := by decide +kernel
theorem otc_17 : xe_look (xc 68) 17 = some (.invokevirtual 59, 3, 0, 65, 883) := by decide +kernel
theorem otc_20 : xe_look (xc 68) 20 = some (.ifCond .eq 48, 3, 0, 0, 0) := by decide +kernel
theorem otc_23 : xe_look (xc 68) 23 = some (.aload_n 0, 1, 0, 0, 0) := by decide +kernel
theorem otc_24 : xe_look (xc 68) 24 = some (.aload_n 1, 1, 0, 0, 0) := by decide +kernel
theorem otc_25 : xe_look (xc 68) 25 = some (.getfield 63, 3, 6, 1, 902) := by decide +kernel
theorem otc_28 : xe_look (xc 68) 28 = some (.iload_n 2, 1, 0, 0, 0) := by decide +kernel
theorem otc_29 : xe_look (xc 68) 29 = some (.iaload, 1, 0, 0, 0) := by decide +kernel
theorem otc_30 : xe_look (xc 68) 30 = some (.invokevirtual 59, 3, 0, 65, 883) := by decide +kernel
theorem otc_33 : xe_look (xc 68) 33 = some (.ifCond .eq 35, 3, 0, 0, 0) := by decide +kernel
theorem otc_36 : xe_look (xc 68) 36 = some (.aload_n 0, 1, 0, 0, 0) := by decide +kernel
theorem otc_37 : xe_look (xc 68) 37 = some (.getfield 18, 3, 5, 6, 882) := by decide +kernel
theorem otc_40 : xe_look (xc 68) 40 = some (.aload_n 0, 1, 0, 0, 0) := by decide +kernel
theorem otc_41 : xe_look (xc 68) 41 = some (.getfield 15, 3, 5, 5, 884) := by decide +kernel
theorem otc_44 : xe_look (xc 68) 44 = some (.aload_n 1, 1, 0, 0, 0) := by decide +kernel
theorem otc_45 : xe_look (xc 68) 45 = some (.getfield 63, 3, 6, 1, 902) := by decide +kernel
theorem otc_48 : xe_look (xc 68) 48 = some (.iload_n 2, 1, 0, 0, 0) := by decide +kernel
theorem otc_49 : xe_look (xc 68) 49 = some (.iaload, 1, 0, 0, 0) := by decide +kernel
theorem otc_50 : xe_look (xc 68) 50 = some (.iaload, 1, 0, 0, 0) := by decide +kernel
theorem otc_51 : xe_look (xc 68) 51 = some (.dup2, 1, 0, 0, 0) := by decide +kernel
theorem otc_52 : xe_look (xc 68) 52 = some (.iaload, 1, 0, 0, 0) := by decide +kernel
theorem otc_53 : xe_look (xc 68) 53 = some (.iconst 1, 1, 0, 0, 0) := by decide +kernel
theorem otc_54 : xe_look (xc 68) 54 = some (.aload_n 0, 1, 0, 0, 0) := by decide +kernel
theorem otc_55 : xe_look (xc 68) 55 = some (.getfield 15, 3, 5, 5, 884) := by decide +kernel
theorem otc_58 : xe_look (xc 68) 58 = some (.aload_n 1, 1, 0, 0, 0) := by decide +kernel
theorem otc_59 : xe_look (xc 68) 59 = some (.getfield 56, 3, 6, 0, 901) := by decide +kernel
theorem otc_62 : xe_look (xc 68) 62 = some (.iload_n 2, 1, 0, 0, 0) := by decide +kernel
theorem otc_63 : xe_look (xc 68) 63 = some (.iaload, 1, 0, 0, 0) := by decide +kernel
theorem otc_64 : xe_look (xc 68) 64 = some (.iaload, 1, 0, 0, 0) := by decide +kernel
theorem otc_65 : xe_look (xc 68) 65 = some (.ishl, 1, 0, 0, 0) := by decide +kernel
theorem otc_66 : xe_look (xc 68) 66 = some (.ior, 1, 0, 0, 0) := by decide +kernel
theorem otc_67 : xe_look (xc 68) 67 = some (.iastore, 1, 0, 0, 0) := by decide +kernel
theorem otc_68 : xe_look (xc 68) 68 = some (.iinc 2 1, 3, 0, 0, 0) := by decide +kernel
theorem otc_71 : xe_look (xc 68) 71 = some (.goto (-69), 3, 0, 0, 0) := by decide +kernel
theorem otc_74 : xe_look (xc 68) 74 = some (.return_, 1, 0, 0, 0) := by decide +kernel
theorem otk_0 : xe_look (xc 67) 0 = some (.iconst 0, 1, 0, 0, 0) := by decide +kernel
theorem otk_1 : xe_look (xc 67) 1 = some (.istore 4, 2, 0, 0, 0) := by decide +kernel
theorem otk_3 : xe_look (xc 67) 3 = some (.iconst 0, 1, 0, 0, 0) := by decide +kernel
theorem otk_4 : xe_look (xc 67) 4 = some (.istore 5, 2, 0, 0, 0) := by decide +kernel
theorem otk_6 : xe_look (xc 67) 6 = some (.iload 5, 2, 0, 0, 0) := by decide +kernel
theorem otk_8 : xe_look (xc 67) 8 = some (.iload_n 2, 1, 0, 0, 0) := by decide +kernel
theorem otk_9 : xe_look (xc 67) 9 = some (.if_icmp .ge 58, 3, 0, 0, 0) := by decide +kernel
theorem otk_12 : xe_look (xc 67) 12 = some (.iload 5, 2, 0, 0, 0) := by decide +kernel
theorem otk_14 : xe_look (xc 67) 14 = some (.aload_n 1, 1, 0, 0, 0) := by decide +kernel
theorem otk_15 : xe_look (xc 67) 15 = some (.arraylength, 1, 0, 0, 0) := by decide +kernel
theorem otk_16 : xe_look (xc 67) 16 = some (.if_icmp .ge 51, 3, 0, 0, 0) := by decide +kernel
theorem otk_19 : xe_look (xc 67) 19 = some (.aload_n 3, 1, 0, 0, 0) := by decide +kernel
theorem otk_20 : xe_look (xc 67) 20 = some (.aload_n 1, 1, 0, 0, 0) := by decide +kernel
theorem otk_21 : xe_look (xc 67) 21 = some (.iload 5, 2, 0, 0, 0) := by decide +kernel
theorem otk_23 : xe_look (xc 67) 23 = some (.iaload, 1, 0, 0, 0) := by decide +kernel
theorem otk_24 : xe_look (xc 67) 24 = some (.invokevirtual 30, 3, 0, 84, 896) := by decide +kernel
theorem otk_27 : xe_look (xc 67) 27 = some (.astore 6, 2, 0, 0, 0) := by decide +kernel
theorem otk_29 : xe_look (xc 67) 29 = some (.aload 6, 2, 0, 0, 0) := by decide +kernel
theorem otk_31 : xe_look (xc 67) 31 = some (.ifnull 16, 3, 0, 0, 0) := by decide +kernel
theorem otk_34 : xe_look (xc 67) 34 = some (.iload 4, 2, 0, 0, 0) := by decide +kernel
theorem otk_36 : xe_look (xc 67) 36 = some (.aload 6, 2, 0, 0, 0) := by decide +kernel
theorem otk_38 : xe_look (xc 67) 38 = some (.getfield 36, 3, 7, 0, 897) := by decide +kernel
theorem otk_41 : xe_look (xc 67) 41 = some (.iushr, 1, 0, 0, 0) := by decide +kernel
theorem otk_42 : xe_look (xc 67) 42 = some (.iconst 1, 1, 0, 0, 0) := by decide +kernel
theorem otk_43 : xe_look (xc 67) 43 = some (.iand, 1, 0, 0, 0) := by decide +kernel
theorem otk_44 : xe_look (xc 67) 44 = some (.ifCond .eq 5, 3, 0, 0, 0) := by decide +kernel
theorem otk_47 : xe_look (xc 67) 47 = some (.iconst 0, 1, 0, 0, 0) := by decide +kernel
theorem otk_48 : xe_look (xc 67) 48 = some (.ireturn, 1, 0, 0, 0) := by decide +kernel
theorem otk_49 : xe_look (xc 67) 49 = some (.iload 4, 2, 0, 0, 0) := by decide +kernel
theorem otk_51 : xe_look (xc 67) 51 = some (.iconst 1, 1, 0, 0, 0) := by decide +kernel
theorem otk_52 : xe_look (xc 67) 52 = some (.aload 6, 2, 0, 0, 0) := by decide +kernel
theorem otk_54 : xe_look (xc 67) 54 = some (.getfield 36, 3, 7, 0, 897) := by decide +kernel
theorem otk_57 : xe_look (xc 67) 57 = some (.ishl, 1, 0, 0, 0) := by decide +kernel
theorem otk_58 : xe_look (xc 67) 58 = some (.ior, 1, 0, 0, 0) := by decide +kernel
theorem otk_59 : xe_look (xc 67) 59 = some (.istore 4, 2, 0, 0, 0) := by decide +kernel
theorem otk_61 : xe_look (xc 67) 61 = some (.iinc 5 1, 3, 0, 0, 0) := by decide +kernel
theorem otk_64 : xe_look (xc 67) 64 = some (.goto (-58), 3, 0, 0, 0) := by decide +kernel
theorem otk_67 : xe_look (xc 67) 67 = some (.aload_n 0, 1, 0, 0, 0) := by decide +kernel
theorem otk_68 : xe_look (xc 67) 68 = some (.iconst 0, 1, 0, 0, 0) := by decide +kernel
theorem otk_69 : xe_look (xc 67) 69 = some (.putfield 42, 3, 5, 3, 880) := by decide +kernel
theorem otk_72 : xe_look (xc 67) 72 = some (.iconst 0, 1, 0, 0, 0) := by decide +kernel
theorem otk_73 : xe_look (xc 67) 73 = some (.istore 5, 2, 0, 0, 0) := by decide +kernel
theorem otk_75 : xe_look (xc 67) 75 = some (.iload 5, 2, 0, 0, 0) := by decide +kernel
theorem otk_77 : xe_look (xc 67) 77 = some (.bipush 32, 2, 0, 0, 0) := by decide +kernel
theorem otk_79 : xe_look (xc 67) 79 = some (.if_icmp .ge 78, 3, 0, 0, 0) := by decide +kernel
theorem otk_82 : xe_look (xc 67) 82 = some (.aload_n 0, 1, 0, 0, 0) := by decide +kernel
theorem otk_83 : xe_look (xc 67) 83 = some (.getfield 15, 3, 5, 5, 884) := by decide +kernel
theorem otk_86 : xe_look (xc 67) 86 = some (.iload 5, 2, 0, 0, 0) := by decide +kernel
theorem otk_88 : xe_look (xc 67) 88 = some (.iconst (-1), 1, 0, 0, 0) := by decide +kernel
theorem otk_89 : xe_look (xc 67) 89 = some (.iastore, 1, 0, 0, 0) := by decide +kernel
theorem otk_90 : xe_look (xc 67) 90 = some (.iload 4, 2, 0, 0, 0) := by decide +kernel
theorem otk_92 : xe_look (xc 67) 92 = some (.iload 5, 2, 0, 0, 0) := by decide +kernel
theorem otk_94 : xe_look (xc 67) 94 = some (.iushr, 1, 0, 0, 0) := by decide +kernel
theorem otk_95 : xe_look (xc 67) 95 = some (.iconst 1, 1, 0, 0, 0) := by decide +kernel
theorem otk_96 : xe_look (xc 67) 96 = some (.iand, 1, 0, 0, 0) := by decide +kernel
theorem otk_97 : xe_look (xc 67) 97 = some (.ifCond .eq 54, 3, 0, 0, 0) := by decide +kernel
theorem otk_100 : xe_look (xc 67) 100 = some (.aload_n 0, 1, 0, 0, 0) := by decide +kernel
theorem otk_101 : xe_look (xc 67) 101 = some (.getfield 42, 3, 5, 3, 880) := by decide +kernel
theorem otk_104 : xe_look (xc 67) 104 = some (.bipush 12, 2, 0, 0, 0) := by decide +kernel
theorem otk_106 : xe_look (xc 67) 106 = some (.if_icmp .ge 45, 3, 0, 0, 0) := by decide +kernel
theorem otk_109 : xe_look (xc 67) 109 = some (.aload_n 0, 1, 0, 0, 0) := by decide +kernel
theorem otk_110 : xe_look (xc 67) 110 = some (.getfield 9, 3, 5, 4, 894) := by decide +kernel
theorem otk_113 : xe_look (xc 67) 113 = some (.aload_n 0, 1, 0, 0, 0) := by decide +kernel
theorem otk_114 : xe_look (xc 67) 114 = some (.getfield 42, 3, 5, 3, 880) := by decide +kernel
theorem otk_117 : xe_look (xc 67) 117 = some (.iload 5, 2, 0, 0, 0) := by decide +kernel
theorem otk_119 : xe_look (xc 67) 119 = some (.iastore, 1, 0, 0, 0) := by decide +kernel
theorem otk_120 : xe_look (xc 67) 120 = some (.aload_n 0, 1, 0, 0, 0) := by decide +kernel
theorem otk_121 : xe_look (xc 67) 121 = some (.getfield 18, 3, 5, 6, 882) := by decide +kernel
theorem otk_124 : xe_look (xc 67) 124 = some (.aload_n 0, 1, 0, 0, 0) := by decide +kernel
theorem otk_125 : xe_look (xc 67) 125 = some (.getfield 42, 3, 5, 3, 880) := by decide +kernel
theorem otk_128 : xe_look (xc 67) 128 = some (.iconst 0, 1, 0, 0, 0) := by decide +kernel
theorem otk_129 : xe_look (xc 67) 129 = some (.iastore, 1, 0, 0, 0) := by decide +kernel
theorem otk_130 : xe_look (xc 67) 130 = some (.aload_n 0, 1, 0, 0, 0) := by decide +kernel
theorem otk_131 : xe_look (xc 67) 131 = some (.getfield 15, 3, 5, 5, 884) := by decide +kernel
theorem otk_134 : xe_look (xc 67) 134 = some (.iload 5, 2, 0, 0, 0) := by decide +kernel
theorem otk_136 : xe_look (xc 67) 136 = some (.aload_n 0, 1, 0, 0, 0) := by decide +kernel
theorem otk_137 : xe_look (xc 67) 137 = some (.getfield 42, 3, 5, 3, 880) := by decide +kernel
theorem otk_140 : xe_look (xc 67) 140 = some (.iastore, 1, 0, 0, 0) := by decide +kernel
theorem otk_141 : xe_look (xc 67) 141 = some (.aload_n 0, 1, 0, 0, 0) := by decide +kernel
theorem otk_142 : xe_look (xc 67) 142 = some (.dup, 1, 0, 0, 0) := by decide +kernel
theorem otk_143 : xe_look (xc 67) 143 = some (.getfield 42, 3, 5, 3, 880) := by decide +kernel
theorem otk_146 : xe_look (xc 67) 146 = some (.iconst 1, 1, 0, 0, 0) := by decide +kernel
theorem otk_147 : xe_look (xc 67) 147 = some (.iadd, 1, 0, 0, 0) := by decide +kernel
theorem otk_148 : xe_look (xc 67) 148 = some (.putfield 42, 3, 5, 3, 880) := by decide +kernel
theorem otk_151 : xe_look (xc 67) 151 = some (.iinc 5 1, 3, 0, 0, 0) := by decide +kernel
theorem otk_154 : xe_look (xc 67) 154 = some (.goto (-79), 3, 0, 0, 0) := by decide +kernel
theorem otk_157 : xe_look (xc 67) 157 = some (.aload_n 0, 1, 0, 0, 0) := by decide +kernel
theorem otk_158 : xe_look (xc 67) 158 = some (.aload_n 3, 1, 0, 0, 0) := by decide +kernel
theorem otk_159 : xe_look (xc 67) 159 = some (.getfield 45, 3, 8, 5, 898) := by decide +kernel
theorem otk_162 : xe_look (xc 67) 162 = some (.invokevirtual 49, 3, 0, 68, 899) := by decide +kernel
theorem otk_165 : xe_look (xc 67) 165 = some (.iconst 1, 1, 0, 0, 0) := by decide +kernel
theorem otk_166 : xe_look (xc 67) 166 = some (.ireturn, 1, 0, 0, 0) := by decide +kernel
theorem jO_m : jO &&& mR1 = 0 := by decide +kernel
theorem jO_b : jO.testBit (cn 1) = false ∧ jO.testBit (cn 70 + 2) = false ∧ jO.testBit (cn 71) = false ∧ jO.testBit (cn 72) = false := by decide +kernel
theorem on_m {g : pH} (hG : g_I eG g) {m : Nat} (hm : m < 32) : cF g (4 + 2 * m) 0 = m := by
  have h : ∀ m, m < 32 → eG (cn (4 + 2 * m) + 0) = ((m : Int), (m : Int), []) := by decide +kernel
  have r := cb_i hG (el_s4 hm) (y := 0) (Nat.le_of_ble_eq_true rfl) rfl (h m hm)
  omega
theorem ou_has {M : Int32} {m : Nat} (hm : m < 32) : ((M.toUInt32 >>> ((Int32.ofInt (m : Int)).toUInt32 &&& Int32.toUInt32 31)).toInt32) &&& (Int32.ofInt 1) = 0 ↔ M.toBitVec.getLsbD m = false := by
  have h31 : ∀ m, m < 32 → ((Int32.ofInt ((m : Nat) : Int)).toUInt32 &&& Int32.toUInt32 31) = UInt32.ofNat m := by decide +kernel
  have h32 : ∀ m, m < 32 → ((UInt32.ofNat m).toBitVec % 32#32).toNat = m := by decide +kernel
  rw [h31 m hm, ← Int32.toBitVec_inj, Int32.toBitVec_and]
  have e1 : (Int32.ofInt 1).toBitVec = 1#32 := by decide
  have e2 : (M.toUInt32 >>> UInt32.ofNat m).toInt32.toBitVec = M.toBitVec >>> m := by
    show M.toBitVec >>> (((UInt32.ofNat m).toBitVec % 32#32)).toNat = _
    rw [h32 m hm]
  rw [e1, e2, BitVec.and_one_eq_setWidth_ofBool_getLsbD, BitVec.getLsbD_ushiftRight, Nat.add_zero]
  cases M.toBitVec.getLsbD m <;> decide
theorem cnt_s {f g : Nat → Bool} {v : Nat} (hv : f v = false) : ∀ {n : Nat}, (∀ j, j < n → g j = (f j || decide (j = v))) → (n ≤ v → cnt g n = cnt f n) ∧ (v < n → cnt g n = cnt f n + 1)
  | 0, _ => ⟨fun _ => rfl, fun z => absurd z (Nat.not_lt_zero _)⟩
  | n + 1, h => by
    have ih := cnt_s hv (n := n) (fun j hj => h j (by omega))
    have e := h n (by omega)
    constructor
    · intro q
      show cnt g n + (if g n then 1 else 0) = cnt f n + (if f n then 1 else 0)
      rw [e, decide_eq_false (by omega), Bool.or_false, ih.1 (by omega)]
    · intro q
      show cnt g n + (if g n then 1 else 0) = cnt f n + (if f n then 1 else 0) + 1
      by_cases q2 : n = v
      · subst q2
        rw [e, hv, decide_eq_true rfl, ih.1 (Nat.le_refl _)]
        rfl
      · rw [e, decide_eq_false q2, Bool.or_false, ih.2 (by omega)]
        omega
theorem cnt_c {f g : Nat → Bool} : ∀ {n : Nat}, (∀ j, j < n → g j = f j) → cnt g n = cnt f n
  | 0, _ => rfl
  | n + 1, h => by
    show cnt g n + (if g n then 1 else 0) = cnt f n + (if f n then 1 else 0)
    rw [cnt_c (n := n) (fun j hj => h j (by omega)), h n (by omega)]
theorem cnt_u {f : Nat → Bool} {j n : Nat} (hf : f j = true) (h : j < n) : cnt f j < cnt f n := by
  have h1 : cnt f (j + 1) = cnt f j + 1 := by
    show cnt f j + (if f j then 1 else 0) = _
    rw [hf]
    rfl
  have h2 := cnt_le (f := f) (n := j + 1) (m := n) (by omega)
  omega
theorem cnt_x {f : Nat → Bool} : ∀ {n k : Nat}, k < cnt f n → ∃ j, j < n ∧ f j = true ∧ cnt f j = k
  | 0, _, h => absurd h (Nat.not_lt_zero _)
  | n + 1, k, h => by
    have h : k < cnt f n + (if f n then 1 else 0) := h
    by_cases q : k < cnt f n
    · obtain ⟨j, h1, h2, h3⟩ := cnt_x (n := n) q
      exact ⟨j, by omega, h2, h3⟩
    · cases h2 : f n with
      | true =>
        rw [h2] at h
        have h : k < cnt f n + 1 := h
        exact ⟨n, by omega, h2, by omega⟩
      | false =>
        rw [h2] at h
        exact absurd h q
theorem cnt_n {f : Nat → Bool} {i j : Nat} (hi : f i = true) (hj : f j = true) (h : cnt f i = cnt f j) : i = j := by
  rcases Nat.lt_trichotomy i j with q | q | q
  · have := cnt_u hi q; omega
  · exact q
  · have := cnt_u hj q; omega
/-- they are told, no one twice -/
def oGd (T : Int → Prop) (B : tC) (n : Nat) : Prop := (∀ k, k < n → T (B k)) ∧ ∀ k k', k < n → k' < k → B k ≠ B k'
/-- the bits of those taken -/
def oBt (T : Int → Prop) (B : tC) (k : Nat) (M : Int32) : Prop := oGd T B k ∧ (∀ j, j < 32 → (M.toBitVec.getLsbD j = true ↔ ∃ k', k' < k ∧ B k' = (j : Int))) ∧ cnt (fun j => M.toBitVec.getLsbD j) 32 = k
theorem oBt_0 {T : Int → Prop} {B : tC} : oBt T B 0 (Int32.ofInt 0) := by
  have e : ∀ j, (Int32.ofInt 0).toBitVec.getLsbD j = false := fun j => by
    show (0#32).getLsbD j = false
    exact BitVec.getLsbD_zero
  refine ⟨⟨fun k h => absurd h (Nat.not_lt_zero _), fun k k' h => absurd h (Nat.not_lt_zero _)⟩, fun j hj => ?_, cnt_z (fun j _ => e j)⟩
  rw [e j]
  exact ⟨fun z => (by cases z), fun ⟨k', z, _⟩ => absurd z (Nat.not_lt_zero _)⟩
theorem oBt_s {T : Int → Prop} {B : tC} {k m : Nat} {M : Int32} (h : oBt T B k M) (hm : m < 32) (hb : B k = m) (hT : T (B k)) (hf : M.toBitVec.getLsbD m = false) : oBt T B (k + 1) (M ||| ((Int32.ofInt 1) <<< ((Int32.ofInt (m : Int)) &&& 31))) := by
  have e : ∀ j, j < 32 → (M ||| ((Int32.ofInt 1) <<< ((Int32.ofInt (m : Int)) &&& 31))).toBitVec.getLsbD j = (M.toBitVec.getLsbD j || decide (j = m)) := fun j hj => bt_st hm hj
  have hn : ∀ k', k' < k → B k' ≠ (m : Int) := fun k' hk z => by
    have := (h.2.1 m hm).mpr ⟨k', hk, z⟩
    rw [hf] at this
    cases this
  refine ⟨⟨fun q hq => ?_, fun q q' h1 h2 => ?_⟩, fun j hj => ?_, ?_⟩
  · by_cases w : q = k
    · rw [w]; exact hT
    · exact h.1.1 q (by omega)
  · by_cases w : q = k
    · rw [w, hb]
      exact fun z => hn q' (by omega) z.symm
    · exact h.1.2 q q' (by omega) h2
  · rw [e j hj, Bool.or_eq_true, h.2.1 j hj, decide_eq_true_iff]
    constructor
    · rintro (⟨k', h1, h2⟩ | h1)
      · exact ⟨k', by omega, h2⟩
      · exact ⟨k, by omega, by rw [hb, h1]⟩
    · rintro ⟨k', h1, h2⟩
      by_cases w : k' = k
      · right
        rw [w, hb] at h2
        omega
      · exact Or.inl ⟨k', by omega, h2⟩
  · rw [(cnt_s (f := fun j => M.toBitVec.getLsbD j) hf e).2 hm, h.2.2]
theorem oBt_d {T : Int → Prop} {B : tC} {k m n : Nat} {M : Int32} (h : oBt T B k M) (hm : m < 32) (hk : k < n) (hb : B k = m) (hf : M.toBitVec.getLsbD m = true) : ¬ oGd T B n := fun z => by
  obtain ⟨k', h1, h2⟩ := (h.2.1 m hm).mp hf
  exact z.2 k k' hk h1 (by rw [hb, h2])
/-- the place of each among the taken -/
def oz_ (b : Nat → Bool) (i : Int) : Int := if 0 ≤ i ∧ i < 32 ∧ b i.toNat = true then (cnt b i.toNat : Int) else -1
def oPl (b : Nat → Bool) (pl : tC) : Prop := ∀ j : Nat, j < 32 → pl j = oz_ b j
def oNu (b : Nat → Bool) (nu : tC) : Prop := ∀ j : Nat, j < 32 → b j = true → nu (cnt b j) = j
theorem oz_b {b : Nat → Bool} {i : Int} : -1 ≤ oz_ b i ∧ oz_ b i ≤ 31 ∧ oz_ b i < (cnt b 32 : Int) ∧ (oz_ b i ≠ -1 → 0 ≤ oz_ b i) := by
  unfold oz_
  by_cases q : 0 ≤ i ∧ i < 32 ∧ b i.toNat = true
  · rw [if_pos q]
    have h1 := cnt_u q.2.2 (show i.toNat < 32 by omega)
    have h2 : ∀ n, cnt b n ≤ n := fun n => by
      induction n with
      | zero => exact Nat.le_refl _
      | succ n ih =>
        show cnt b n + (if b n then 1 else 0) ≤ n + 1
        cases b n
        · show cnt b n + 0 ≤ n + 1; omega
        · show cnt b n + 1 ≤ n + 1; omega
    have h3 := h2 32
    omega
  · rw [if_neg q]
    omega
/-- which must be ahead, by the clues -/
def oCk (z : Int → Int) (ca cb : tC) : Nat → Nat → Nat
  | 0 => fun _ => 0
  | m + 1 => if z (ca m) ≠ -1 ∧ z (cb m) ≠ -1 then oA (oCk z ca cb m) (z (ca m)).toNat (z (cb m)).toNat else oCk z ca cb m
theorem oA_b {A : Nat → Nat} {a b : Nat} (ha : a < 12) (h : ∀ k, A k < 4096) : ∀ k, oA A a b k < 4096 := fun k => by
  unfold oA
  by_cases q : k = b
  · rw [if_pos q]
    exact Nat.or_lt_two_pow (n := 12) (h b) (Nat.pow_lt_pow_right (by decide) ha)
  · rw [if_neg q]
    exact h k
theorem oCk_b {b : Nat → Bool} (hb : cnt b 32 ≤ 12) {ca cb : tC} : ∀ {m k : Nat}, oCk (oz_ b) ca cb m k < 4096
  | 0, _ => by show 0 < 4096; decide
  | m + 1, k => by
    show (if oz_ b (ca m) ≠ -1 ∧ oz_ b (cb m) ≠ -1 then oA (oCk (oz_ b) ca cb m) (oz_ b (ca m)).toNat (oz_ b (cb m)).toNat else oCk (oz_ b) ca cb m) k < 4096
    have h1 := oz_b (b := b) (i := ca m)
    by_cases q : oz_ b (ca m) ≠ -1 ∧ oz_ b (cb m) ≠ -1
    · rw [if_pos q]
      exact oA_b (by omega) (fun k => oCk_b hb (m := m)) k
    · rw [if_neg q]
      exact oCk_b hb (m := m)
theorem oeo_2 : eL[2]? = some (0, 8) := by decide +kernel
theorem oeo_70 : eL[70]? = some (0, 6) := by decide +kernel
theorem ogu_1 : eG (cn 1) = (0, 255, []) := by decide +kernel
theorem ogu_191 : eG (cn 191) = ((-1), 11, []) := by decide +kernel
theorem ogu_71 : eG (cn 71) = (0, 31, []) := by decide +kernel
theorem ogu_72 : eG (cn 72) = (0, 31, []) := by decide +kernel
theorem ogy_189_3 : eG (cn 189 + 3) = (0, 12, []) := by decide +kernel
theorem och_189_5 : (eG (cn 189 + 5)).2.2 = [192] := by decide +kernel
theorem ocq_189_5 {d i : Nat} {lv : List (Nat × pv)} {r : List pv} {g : pH} (hG : g_I eG g) : px_push eL d none (.getfield i) 5 5 lv (pvR 189 :: r) g = some (pvR 191 :: r) := pget oeo_189 (gI_r (r := 191) hG oeo_189 (Nat.le_of_ble_eq_true rfl) (y := 5) rfl och_189_5)
theorem och_2_5 : (eG (cn 2 + 5)).2.2 = [71] := by decide +kernel
theorem ocq_2_5 {d i : Nat} {lv : List (Nat × pv)} {r : List pv} {g : pH} (hG : g_I eG g) : px_push eL d none (.getfield i) 8 5 lv (pvR 2 :: r) g = some (pvR 70 :: r) := pget oeo_2 (gI_o (r := 70) hG oeo_2 (Nat.le_of_ble_eq_true rfl) (y := 5) rfl och_2_5)
theorem och_70_0 : (eG (cn 70 + 0)).2.2 = [72] := by decide +kernel
theorem ocq_70_0 {d i : Nat} {lv : List (Nat × pv)} {r : List pv} {g : pH} (hG : g_I eG g) : px_push eL d none (.getfield i) 6 0 lv (pvR 70 :: r) g = some (pvR 71 :: r) := pget oeo_70 (gI_r (r := 71) hG oeo_70 (Nat.le_of_ble_eq_true rfl) (y := 0) rfl och_70_0)
theorem och_70_1 : (eG (cn 70 + 1)).2.2 = [73] := by decide +kernel
theorem ocq_70_1 {d i : Nat} {lv : List (Nat × pv)} {r : List pv} {g : pH} (hG : g_I eG g) : px_push eL d none (.getfield i) 6 1 lv (pvR 70 :: r) g = some (pvR 72 :: r) := pget oeo_70 (gI_r (r := 72) hG oeo_70 (Nat.le_of_ble_eq_true rfl) (y := 1) rfl och_70_1)
theorem oez_1 : eL[1]? = some (1, 260) := by decide +kernel
theorem oez_191 : eL[191]? = some (1, 32) := by decide +kernel
theorem oez_71 : eL[71]? = some (1, 24) := by decide +kernel
theorem oez_72 : eL[72]? = some (1, 24) := by decide +kernel
theorem wt_jO_189_3 : jO.testBit (cn 189 + 3) = true := by decide +kernel
theorem wu_jO_190 : jO.testBit (cn 190) = true := by decide +kernel
theorem wu_jO_191 : jO.testBit (cn 191) = true := by decide +kernel
theorem wu_jO_192 : jO.testBit (cn 192) = true := by decide +kernel
theorem ohs_run {d : Nat} (hd : 1 ≤ d) {g0 g : pH} {va vb vc vn : Int} {nu pl ah wf wl la : tC} (hS : oE g0 g va vb vc vn nu pl ah wf wl la) {b : Nat → Bool} (hpl : oPl b pl) {i : Int} (hi : -2147483648 ≤ i ∧ i ≤ 2147483647) {P : Option pv × pH → Prop} (h1 : oz_ b i ≠ -1 → P (some (oI 1), g)) (h0 : oz_ b i = -1 → P (some (oI 0), g)) {lv : List (Nat × pv)} (l0 : px_lg lv 0 = some (pvR 189)) (l1 : px_lg lv 1 = some (oI i)) : t_X d 65 0 lv [] g P := by
  have hzb := oz_b (b := b) (i := i)
  refine t_0 ohs_0 rfl (ld_i l1) ?_
  refine t_0 ohs_1 rfl rfl ?_
  refine t_0 ohs_2 rfl (pq_b (by decide)) ?_
  refine t_3 ohs_4 rfl (ar := ([oI (i), oI 0, oI 31], [])) (pcal_s ⟨Or.inr rfl, rfl, Nat.le_of_ble_eq_true rfl⟩) ⟨by omega, Nat.le_of_ble_eq_true rfl, Nat.le_of_ble_eq_true rfl, rfl⟩ ?_
  refine ii_run ⟨by omega, by omega⟩ ⟨by omega, by omega⟩ ⟨by omega, by omega⟩ rfl rfl rfl (fun t1 => ?_) (fun t1 => ?_)
  · show t_X d 65 7 lv [oI 1] g P
    refine tz_eq ohs_7 (by decide) ⟨by omega, by omega⟩ (fun c2 => absurd c2 (by omega)) (fun c2 => ?_)
    show t_X d 65 10 lv [] g P
    refine t_0 ohs_10 rfl (ld_a l0) ?_
    refine t_0 ohs_11 rfl (ocq_189_5 (S_J hS).1) ?_
    show t_X d 65 14 lv [pvR 191] g P
    refine t_0 ohs_14 rfl (ld_i l1) ?_
    have r3 := pb_a (S_J hS).1 oez_191 (j := i.toNat) (by omega) ogu_191 (show fA g 191 = pl from S_a hS 1 (Nat.le_of_ble_eq_true rfl))
    refine t_0 ohs_15 rfl (pq_iv oez_191 rfl ⟨by omega, by omega⟩ (show fA g 191 = pl from S_a hS 1 (Nat.le_of_ble_eq_true rfl))) ?_
    show t_X d 65 16 lv [oI (pl i.toNat)] g P
    rw [show pl i.toNat = oz_ b i from by rw [hpl i.toNat (by omega), Int.toNat_of_nonneg (by omega)]]
    show t_X d 65 16 lv [oI (oz_ b i)] g P
    refine t_0 ohs_16 rfl rfl ?_
    refine tb_eq ohs_17 (by decide) ⟨by omega, by omega⟩ ⟨by omega, by omega⟩ (fun c4 => ?_) (fun c4 => ?_)
    · show t_X d 65 24 lv [] g P
      refine t_0 ohs_24 rfl rfl ?_
      refine t_5 ohs_25 rfl rfl ?_
      exact h0 (by omega)
    · show t_X d 65 20 lv [] g P
      refine t_0 ohs_20 rfl rfl ?_
      refine t_1 ohs_21 rfl (pb_goto (pc := 21) (by decide)) ?_
      show t_X d 65 25 lv [oI 1] g P
      refine t_5 ohs_25 rfl rfl ?_
      exact h1 (by omega)
  · show t_X d 65 7 lv [oI 0] g P
    refine tz_eq ohs_7 (by decide) ⟨by omega, by omega⟩ (fun c5 => ?_) (fun c5 => absurd c5 (by omega))
    show t_X d 65 24 lv [] g P
    refine t_0 ohs_24 rfl rfl ?_
    refine t_5 ohs_25 rfl rfl ?_
    exact h0 (if_neg (by omega))
set_option maxHeartbeats 2000000 in
theorem otcL1 {d N : Nat} (hd : 2 ≤ d) {g0 : pH} {va vb vc cl : Int} {nu pl wf wl la ca cb : tC} (hcl : cF g0 70 2 = cl) (hca : fA g0 71 = ca) (hcb : fA g0 72 = cb) (hcl2 : 0 ≤ cl ∧ cl ≤ 24) {b : Nat → Bool} (hbN : cnt b 32 = N) (hN : N ≤ 12) (hpl : oPl b pl) {P : Option pv × pH → Prop} (hP : ∀ (g : pH) (ah : tC), oE g0 g va vb vc N nu pl ah wf wl la → (∀ q : Nat, q < N → ah q = (oCk (oz_ b) ca cb cl.toNat q : Int)) → P (none, g)) : ∀ (m k : Nat) (g : pH) {ah : tC}, cl - k ≤ m → k ≤ cl → (∀ q : Nat, q < N → ah q = (oCk (oz_ b) ca cb k q : Int)) → oE g0 g va vb vc N nu pl ah wf wl la → ∀ {lv : List (Nat × pv)}, px_lg lv 0 = some (pvR 189) → px_lg lv 1 = some (pvR 70) → px_lg lv 2 = some (oI (k : Int)) → t_X d 68 2 lv [] g P := by
  intro m
  induction m with
  | zero =>
    intro k g ah hm hk hah hS lv l0 l1 l2
    refine t_0 otc_2 rfl (ld_i l2) ?_
    refine t_0 otc_3 rfl (ld_a l1) ?_
    refine t_0 otc_4 rfl (pq_cv oeo_70 rfl ((cF_M (S_J hS).2 jO_b.2.1).trans hcl : cF g 70 2 = cl)) ?_
    show t_X d 68 7 lv [oI (cl), oI ((k : Int))] g P
    refine tb_ge otc_7 (by decide) ⟨by omega, by omega⟩ ⟨by omega, by omega⟩ (fun c1 => ?_) (fun c1 => absurd c1 (by omega))
    show t_X d 68 74 lv [] g P
    refine t_5 otc_74 rfl rfl ?_
    exact hP _ _ hS (by have : k = cl.toNat := (by omega); rw [← this]; exact hah)
  | succ m ih =>
    intro k g ah hm hk hah hS lv l0 l1 l2
    by_cases hkN : (k : Int) = cl
    · refine t_0 otc_2 rfl (ld_i l2) ?_
      refine t_0 otc_3 rfl (ld_a l1) ?_
      refine t_0 otc_4 rfl (pq_cv oeo_70 rfl ((cF_M (S_J hS).2 jO_b.2.1).trans hcl : cF g 70 2 = cl)) ?_
      show t_X d 68 7 lv [oI (cl), oI ((k : Int))] g P
      refine tb_ge otc_7 (by decide) ⟨by omega, by omega⟩ ⟨by omega, by omega⟩ (fun c1 => ?_) (fun c1 => absurd c1 (by omega))
      show t_X d 68 74 lv [] g P
      refine t_5 otc_74 rfl rfl ?_
      exact hP _ _ hS (by have : k = cl.toNat := (by omega); rw [← this]; exact hah)
    have hz1 := oz_b (b := b) (i := ca k)
    have hz2 := oz_b (b := b) (i := cb k)
    refine t_0 otc_2 rfl (ld_i l2) ?_
    refine t_0 otc_3 rfl (ld_a l1) ?_
    refine t_0 otc_4 rfl (pq_cv oeo_70 rfl ((cF_M (S_J hS).2 jO_b.2.1).trans hcl : cF g 70 2 = cl)) ?_
    show t_X d 68 7 lv [oI (cl), oI ((k : Int))] g P
    refine tb_ge otc_7 (by decide) ⟨by omega, by omega⟩ ⟨by omega, by omega⟩ (fun c1 => absurd c1 (by omega)) (fun c1 => ?_)
    show t_X d 68 10 lv [] g P
    refine t_0 otc_10 rfl (ld_a l0) ?_
    refine t_0 otc_11 rfl (ld_a l1) ?_
    refine t_0 otc_12 rfl (ocq_70_0 (S_J hS).1) ?_
    show t_X d 68 15 lv [pvR 71, pvR 189] g P
    refine t_0 otc_15 rfl (ld_i l2) ?_
    have r2 := pb_a (S_J hS).1 oez_71 (j := k) (by omega) ogu_71 ((fA_M (S_J hS).2 jO_b.2.2.1).trans hca : fA g 71 = ca)
    refine t_0 otc_16 rfl (pq_iv oez_71 rfl ⟨by omega, by omega⟩ ((fA_M (S_J hS).2 jO_b.2.2.1).trans hca : fA g 71 = ca)) ?_
    show t_X d 68 17 lv [oI (ca k), pvR 189] g P
    show t_X d 68 17 lv [oI (ca k), pvR 189] g P
    refine t_3 otc_17 rfl (ar := ([pvR 189, oI (ca k)], [])) (pcal_w (as := [oI (ca k)]) rfl rfl rfl oeo_189) ⟨by omega, Nat.le_of_ble_eq_true rfl, Nat.le_of_ble_eq_true rfl, rfl⟩ ?_
    refine ohs_run (by omega) hS hpl ⟨by omega, by omega⟩ (fun t3 => ?_) (fun t3 => ?_) rfl rfl
    · show t_X d 68 20 lv [oI 1] g P
      refine tz_eq otc_20 (by decide) ⟨by omega, by omega⟩ (fun c4 => absurd c4 (by omega)) (fun c4 => ?_)
      show t_X d 68 23 lv [] g P
      refine t_0 otc_23 rfl (ld_a l0) ?_
      refine t_0 otc_24 rfl (ld_a l1) ?_
      refine t_0 otc_25 rfl (ocq_70_1 (S_J hS).1) ?_
      show t_X d 68 28 lv [pvR 72, pvR 189] g P
      refine t_0 otc_28 rfl (ld_i l2) ?_
      have r5 := pb_a (S_J hS).1 oez_72 (j := k) (by omega) ogu_72 ((fA_M (S_J hS).2 jO_b.2.2.2).trans hcb : fA g 72 = cb)
      refine t_0 otc_29 rfl (pq_iv oez_72 rfl ⟨by omega, by omega⟩ ((fA_M (S_J hS).2 jO_b.2.2.2).trans hcb : fA g 72 = cb)) ?_
      show t_X d 68 30 lv [oI (cb k), pvR 189] g P
      show t_X d 68 30 lv [oI (cb k), pvR 189] g P
      refine t_3 otc_30 rfl (ar := ([pvR 189, oI (cb k)], [])) (pcal_w (as := [oI (cb k)]) rfl rfl rfl oeo_189) ⟨by omega, Nat.le_of_ble_eq_true rfl, Nat.le_of_ble_eq_true rfl, rfl⟩ ?_
      refine ohs_run (by omega) hS hpl ⟨by omega, by omega⟩ (fun t6 => ?_) (fun t6 => ?_) rfl rfl
      · show t_X d 68 33 lv [oI 1] g P
        refine tz_eq otc_33 (by decide) ⟨by omega, by omega⟩ (fun c7 => absurd c7 (by omega)) (fun c7 => ?_)
        show t_X d 68 36 lv [] g P
        refine t_0 otc_36 rfl (ld_a l0) ?_
        refine t_0 otc_37 rfl (ocq_189_6 (S_J hS).1) ?_
        show t_X d 68 40 lv [pvR 192] g P
        refine t_0 otc_40 rfl (ld_a l0) ?_
        refine t_0 otc_41 rfl (ocq_189_5 (S_J hS).1) ?_
        show t_X d 68 44 lv [pvR 191, pvR 192] g P
        refine t_0 otc_44 rfl (ld_a l1) ?_
        refine t_0 otc_45 rfl (ocq_70_1 (S_J hS).1) ?_
        show t_X d 68 48 lv [pvR 72, pvR 191, pvR 192] g P
        refine t_0 otc_48 rfl (ld_i l2) ?_
        have r8 := pb_a (S_J hS).1 oez_72 (j := k) (by omega) ogu_72 ((fA_M (S_J hS).2 jO_b.2.2.2).trans hcb : fA g 72 = cb)
        refine t_0 otc_49 rfl (pq_iv oez_72 rfl ⟨by omega, by omega⟩ ((fA_M (S_J hS).2 jO_b.2.2.2).trans hcb : fA g 72 = cb)) ?_
        show t_X d 68 50 lv [oI (cb k), pvR 191, pvR 192] g P
        show t_X d 68 50 lv [oI (cb k), pvR 191, pvR 192] g P
        have r9 := pb_a (S_J hS).1 oez_191 (j := (cb k).toNat) (by omega) ogu_191 (show fA g 191 = pl from S_a hS 1 (Nat.le_of_ble_eq_true rfl))
        refine t_0 otc_50 rfl (pq_iv oez_191 rfl ⟨by omega, by omega⟩ (show fA g 191 = pl from S_a hS 1 (Nat.le_of_ble_eq_true rfl))) ?_
        show t_X d 68 51 lv [oI (pl ((cb k).toNat)), pvR 192] g P
        rw [show pl (cb k).toNat = oz_ b (cb k) from by rw [hpl (cb k).toNat (by omega), Int.toNat_of_nonneg (by omega)]]
        show t_X d 68 51 lv [oI (oz_ b (cb k)), pvR 192] g P
        obtain ⟨y, hy⟩ : ∃ y : Nat, oz_ b (cb k) = y := ⟨(oz_ b (cb k)).toNat, by omega⟩
        rw [hy]
        show t_X d 68 51 lv [oI ((y : Int)), pvR 192] g P
        refine t_0 otc_51 rfl rfl ?_
        have r10 := pb_a (S_J hS).1 oez_192 (j := (y : Int).toNat) (by omega) ogu_192 (show fA g 192 = ah from S_a hS 2 (Nat.le_of_ble_eq_true rfl))
        refine t_0 otc_52 rfl (pq_iv oez_192 rfl ⟨by omega, by omega⟩ (show fA g 192 = ah from S_a hS 2 (Nat.le_of_ble_eq_true rfl))) ?_
        show t_X d 68 53 lv [oI (ah ((y : Int).toNat)), oI ((y : Int)), pvR 192] g P
        rw [show ah (y : Int).toNat = (oCk (oz_ b) ca cb k y : Int) from hah y (by omega)]
        show t_X d 68 53 lv [oI ((oCk (oz_ b) ca cb k y : Int)), oI ((y : Int)), pvR 192] g P
        refine t_0 otc_53 rfl rfl ?_
        refine t_0 otc_54 rfl (ld_a l0) ?_
        refine t_0 otc_55 rfl (ocq_189_5 (S_J hS).1) ?_
        show t_X d 68 58 lv [pvR 191, oI 1, oI ((oCk (oz_ b) ca cb k y : Int)), oI ((y : Int)), pvR 192] g P
        refine t_0 otc_58 rfl (ld_a l1) ?_
        refine t_0 otc_59 rfl (ocq_70_0 (S_J hS).1) ?_
        show t_X d 68 62 lv [pvR 71, pvR 191, oI 1, oI ((oCk (oz_ b) ca cb k y : Int)), oI ((y : Int)), pvR 192] g P
        refine t_0 otc_62 rfl (ld_i l2) ?_
        have r11 := pb_a (S_J hS).1 oez_71 (j := k) (by omega) ogu_71 ((fA_M (S_J hS).2 jO_b.2.2.1).trans hca : fA g 71 = ca)
        refine t_0 otc_63 rfl (pq_iv oez_71 rfl ⟨by omega, by omega⟩ ((fA_M (S_J hS).2 jO_b.2.2.1).trans hca : fA g 71 = ca)) ?_
        show t_X d 68 64 lv [oI (ca k), pvR 191, oI 1, oI ((oCk (oz_ b) ca cb k y : Int)), oI ((y : Int)), pvR 192] g P
        show t_X d 68 64 lv [oI (ca k), pvR 191, oI 1, oI ((oCk (oz_ b) ca cb k y : Int)), oI ((y : Int)), pvR 192] g P
        have r12 := pb_a (S_J hS).1 oez_191 (j := (ca k).toNat) (by omega) ogu_191 (show fA g 191 = pl from S_a hS 1 (Nat.le_of_ble_eq_true rfl))
        refine t_0 otc_64 rfl (pq_iv oez_191 rfl ⟨by omega, by omega⟩ (show fA g 191 = pl from S_a hS 1 (Nat.le_of_ble_eq_true rfl))) ?_
        show t_X d 68 65 lv [oI (pl ((ca k).toNat)), oI 1, oI ((oCk (oz_ b) ca cb k y : Int)), oI ((y : Int)), pvR 192] g P
        rw [show pl (ca k).toNat = oz_ b (ca k) from by rw [hpl (ca k).toNat (by omega), Int.toNat_of_nonneg (by omega)]]
        show t_X d 68 65 lv [oI (oz_ b (ca k)), oI 1, oI ((oCk (oz_ b) ca cb k y : Int)), oI ((y : Int)), pvR 192] g P
        obtain ⟨x, hx⟩ : ∃ x : Nat, oz_ b (ca k) = x := ⟨(oz_ b (ca k)).toNat, by omega⟩
        rw [hx]
        show t_X d 68 65 lv [oI ((x : Int)), oI 1, oI ((oCk (oz_ b) ca cb k y : Int)), oI ((y : Int)), pvR 192] g P
        refine t_0 otc_65 rfl rfl ?_
        have hqb := oCk_b (b := b) (by omega) (ca := ca) (cb := cb) (m := k) (k := y)
        have hq2 : oCk (oz_ b) ca cb k y ||| 2 ^ x < 4096 := Nat.or_lt_two_pow (n := 12) hqb (Nat.pow_lt_pow_right (by decide) (by omega))
        refine t_0 otc_66 rfl (pq_orx (s := oCk (oz_ b) ca cb k y) (k := x) (by omega) (by omega)) ?_
        refine ts_a (n := 2) rfl rfl (by decide) otc_67 hS oez_192 rfl wu_jO_192 ogu_192 (by decide) ⟨by omega, by omega⟩ ⟨by omega, by omega⟩ (fun g13 hS13 => ?_)
        replace hS13 : oE g0 g13 va vb vc (N : Int) nu pl (updI ah (y : Int).toNat ((oCk (oz_ b) ca cb k y ||| 2 ^ x : Nat) : Int)) wf wl la := hS13
        show t_X d 68 68 lv [] g13 P
        refine t_2 otc_68 rfl (w := (px_s1 lv 2 (oI ((k : Int) + 1)), [])) (pq_inc l2 (by decide)) ?_
        replace l0 : px_lg (px_s1 lv 2 (oI ((k : Int) + 1))) 0 = some (pvR 189) := s1_ne (by decide) (fun _ => rfl) l0
        replace l1 : px_lg (px_s1 lv 2 (oI ((k : Int) + 1))) 1 = some (pvR 70) := s1_ne (by decide) (fun _ => rfl) l1
        have l2 : px_lg (px_s1 lv 2 (oI ((k : Int) + 1))) 2 = some (oI ((k : Int) + 1)) := s1_eq
        generalize px_s1 lv 2 (oI ((k : Int) + 1)) = lv14 at l0 l1 l2 ⊢
        show t_X d 68 71 lv14 [] g13 P
        refine t_1 otc_71 rfl (pb_goto (pc := 71) (by decide)) ?_
        show t_X d 68 2 lv14 [] g13 P
        refine ih (k + 1) _ (by omega) (by omega) (fun q hq => ?_) hS13 l0 l1 l2
        show updI ah _ _ q = ((if oz_ b (ca k) ≠ -1 ∧ oz_ b (cb k) ≠ -1 then oA (oCk (oz_ b) ca cb k) (oz_ b (ca k)).toNat (oz_ b (cb k)).toNat else oCk (oz_ b) ca cb k) q : Nat)
        rw [if_pos ⟨t3, t6⟩, hx, hy]
        unfold updI oA
        by_cases e : q = y
        · rw [if_pos (by rw [e]; rfl), if_pos (by rw [e]; rfl)]; rfl
        · rw [if_neg (fun z => e (by rw [z]; rfl)), if_neg (fun z => e (by rw [z]; rfl))]; exact hah q hq
      · show t_X d 68 33 lv [oI 0] g P
        refine tz_eq otc_33 (by decide) ⟨by omega, by omega⟩ (fun c15 => ?_) (fun c15 => absurd c15 (by omega))
        show t_X d 68 68 lv [] g P
        refine t_2 otc_68 rfl (w := (px_s1 lv 2 (oI ((k : Int) + 1)), [])) (pq_inc l2 (by decide)) ?_
        replace l0 : px_lg (px_s1 lv 2 (oI ((k : Int) + 1))) 0 = some (pvR 189) := s1_ne (by decide) (fun _ => rfl) l0
        replace l1 : px_lg (px_s1 lv 2 (oI ((k : Int) + 1))) 1 = some (pvR 70) := s1_ne (by decide) (fun _ => rfl) l1
        have l2 : px_lg (px_s1 lv 2 (oI ((k : Int) + 1))) 2 = some (oI ((k : Int) + 1)) := s1_eq
        generalize px_s1 lv 2 (oI ((k : Int) + 1)) = lv16 at l0 l1 l2 ⊢
        show t_X d 68 71 lv16 [] g P
        refine t_1 otc_71 rfl (pb_goto (pc := 71) (by decide)) ?_
        show t_X d 68 2 lv16 [] g P
        refine ih (k + 1) _ (by omega) (by omega) (fun q hq => ?_) hS l0 l1 l2
        show ah q = ((if oz_ b (ca k) ≠ -1 ∧ oz_ b (cb k) ≠ -1 then oA (oCk (oz_ b) ca cb k) (oz_ b (ca k)).toNat (oz_ b (cb k)).toNat else oCk (oz_ b) ca cb k) q : Nat)
        rw [if_neg (fun z => z.2 t6)]
        exact hah q hq
    · show t_X d 68 20 lv [oI 0] g P
      refine tz_eq otc_20 (by decide) ⟨by omega, by omega⟩ (fun c17 => ?_) (fun c17 => absurd c17 (by omega))
      show t_X d 68 68 lv [] g P
      refine t_2 otc_68 rfl (w := (px_s1 lv 2 (oI ((k : Int) + 1)), [])) (pq_inc l2 (by decide)) ?_
      replace l0 : px_lg (px_s1 lv 2 (oI ((k : Int) + 1))) 0 = some (pvR 189) := s1_ne (by decide) (fun _ => rfl) l0
      replace l1 : px_lg (px_s1 lv 2 (oI ((k : Int) + 1))) 1 = some (pvR 70) := s1_ne (by decide) (fun _ => rfl) l1
      have l2 : px_lg (px_s1 lv 2 (oI ((k : Int) + 1))) 2 = some (oI ((k : Int) + 1)) := s1_eq
      generalize px_s1 lv 2 (oI ((k : Int) + 1)) = lv18 at l0 l1 l2 ⊢
      show t_X d 68 71 lv18 [] g P
      refine t_1 otc_71 rfl (pb_goto (pc := 71) (by decide)) ?_
      show t_X d 68 2 lv18 [] g P
      refine ih (k + 1) _ (by omega) (by omega) (fun q hq => ?_) hS l0 l1 l2
      show ah q = ((if oz_ b (ca k) ≠ -1 ∧ oz_ b (cb k) ≠ -1 then oA (oCk (oz_ b) ca cb k) (oz_ b (ca k)).toNat (oz_ b (cb k)).toNat else oCk (oz_ b) ca cb k) q : Nat)
      rw [if_neg (fun z => z.1 t3)]
      exact hah q hq
theorem otc_run {d N : Nat} (hd : 2 ≤ d) {g0 : pH} {va vb vc cl : Int} {nu pl wf wl la ca cb : tC} (hcl : cF g0 70 2 = cl) (hca : fA g0 71 = ca) (hcb : fA g0 72 = cb) (hcl2 : 0 ≤ cl ∧ cl ≤ 24) {b : Nat → Bool} (hbN : cnt b 32 = N) (hN : N ≤ 12) (hpl : oPl b pl) {P : Option pv × pH → Prop} {g : pH} {ah : tC} (h0 : ∀ q : Nat, q < N → ah q = 0) (hS : oE g0 g va vb vc N nu pl ah wf wl la) (hP : ∀ (g : pH) (ah : tC), oE g0 g va vb vc N nu pl ah wf wl la → (∀ q : Nat, q < N → ah q = (oCk (oz_ b) ca cb cl.toNat q : Int)) → P (none, g)) {lv : List (Nat × pv)} (l0 : px_lg lv 0 = some (pvR 189)) (l1 : px_lg lv 1 = some (pvR 70)) : t_X d 68 0 lv [] g P := by
  refine t_0 otc_0 rfl rfl ?_
  refine t_2 otc_1 rfl (w := (px_s1 lv 2 (oI 0), [])) rfl ?_
  replace l0 : px_lg (px_s1 lv 2 (oI 0)) 0 = some (pvR 189) := s1_ne (by decide) (fun _ => rfl) l0
  replace l1 : px_lg (px_s1 lv 2 (oI 0)) 1 = some (pvR 70) := s1_ne (by decide) (fun _ => rfl) l1
  have l2 : px_lg (px_s1 lv 2 (oI 0)) 2 = some (oI 0) := s1_eq
  generalize px_s1 lv 2 (oI 0) = lv1 at l0 l1 l2 ⊢
  show t_X d 68 2 lv1 [] g P
  exact otcL1 hd hcl hca hcb hcl2 hbN hN hpl hP 24 0 _ (by omega) (by omega) h0 hS l0 l1 l2
set_option maxHeartbeats 2000000 in
theorem otkL1 {d N : Nat} (hd : 4 ≤ d) (hN : N ≤ 12) {g0 : pH} (hrS : rS g0) {va vb vc vn : Int} {B : tC} (hB : fA g0 1 = B) {P : Option pv × pH → Prop} {nu pl ah wf wl la : tC} (hS : oE g0 g0 va vb vc vn nu pl ah wf wl la) (h0 : ¬ oGd (toC g0) B N → P (some (oI 0), g0)) (hC : ∀ (M : Int32), oBt (toC g0) B N M → ∀ {lv : List (Nat × pv)}, px_lg lv 0 = some (pvR 189) → px_lg lv 1 = some (pvR 1) → px_lg lv 2 = some (oI (N : Int)) → px_lg lv 3 = some (pvR 2) → px_lg lv 4 = some (.inl M) → t_X d 67 67 lv [] g0 P) : ∀ (m k : Nat) (M : Int32), N - k ≤ m → k ≤ N → oBt (toC g0) B k M → ∀ {lv : List (Nat × pv)}, px_lg lv 0 = some (pvR 189) → px_lg lv 1 = some (pvR 1) → px_lg lv 2 = some (oI (N : Int)) → px_lg lv 3 = some (pvR 2) → px_lg lv 4 = some (.inl M) → px_lg lv 5 = some (oI (k : Int)) → t_X d 67 6 lv [] g0 P := by
  intro m
  induction m with
  | zero =>
    intro k M hm hk hM lv l0 l1 l2 l3 l4 l5
    have hkN : k = N := by omega
    refine t_0 otk_6 rfl (ld_i l5) ?_
    refine t_0 otk_8 rfl (ld_i l2) ?_
    refine tb_ge otk_9 (by decide) ⟨by omega, by omega⟩ ⟨by omega, by omega⟩ (fun c1 => ?_) (fun c1 => absurd c1 (by omega))
    show t_X d 67 67 lv [] g0 P
    rw [hkN] at hM
    exact hC _ hM l0 l1 l2 l3 l4
  | succ m ih =>
    intro k M hm hk hM lv l0 l1 l2 l3 l4 l5
    by_cases hkN : k = N
    · refine t_0 otk_6 rfl (ld_i l5) ?_
      refine t_0 otk_8 rfl (ld_i l2) ?_
      refine tb_ge otk_9 (by decide) ⟨by omega, by omega⟩ ⟨by omega, by omega⟩ (fun c1 => ?_) (fun c1 => absurd c1 (by omega))
      show t_X d 67 67 lv [] g0 P
      rw [hkN] at hM
      exact hC _ hM l0 l1 l2 l3 l4
    refine t_0 otk_6 rfl (ld_i l5) ?_
    refine t_0 otk_8 rfl (ld_i l2) ?_
    refine tb_ge otk_9 (by decide) ⟨by omega, by omega⟩ ⟨by omega, by omega⟩ (fun c1 => absurd c1 (by omega)) (fun c1 => ?_)
    show t_X d 67 12 lv [] g0 P
    refine t_0 otk_12 rfl (ld_i l5) ?_
    refine t_0 otk_14 rfl (ld_a l1) ?_
    refine t_0 otk_15 rfl (pq_ln oez_1 rfl) ?_
    show t_X d 67 16 lv [oI 260, oI ((k : Int))] g0 P
    refine tb_ge otk_16 (by decide) ⟨by omega, by omega⟩ ⟨by omega, by omega⟩ (fun c2 => absurd c2 (by omega)) (fun c2 => ?_)
    show t_X d 67 19 lv [] g0 P
    refine t_0 otk_19 rfl (ld_a l3) ?_
    refine t_0 otk_20 rfl (ld_a l1) ?_
    refine t_0 otk_21 rfl (ld_i l5) ?_
    have r3 := pb_a (S_J hS).1 oez_1 (j := k) (by omega) ogu_1 ((fA_M (S_J hS).2 jO_b.1).trans hB : fA g0 1 = B)
    refine t_0 otk_23 rfl (pq_iv oez_1 rfl ⟨by omega, by omega⟩ ((fA_M (S_J hS).2 jO_b.1).trans hB : fA g0 1 = B)) ?_
    show t_X d 67 24 lv [oI (B k), pvR 2] g0 P
    show t_X d 67 24 lv [oI (B k), pvR 2] g0 P
    refine t_3 otk_24 rfl (ar := ([pvR 2, oI (B k)], [])) (pcal_w (as := [oI (B k)]) rfl rfl rfl oeo_2) ⟨by omega, Nat.le_of_ble_eq_true rfl, Nat.le_of_ble_eq_true rfl, rfl⟩ ?_
    refine td_run (by omega) (S_J hS).1 hrS ⟨by omega, by omega⟩ (fun m9 hm9 em9 ht9 => ?_) (fun ht9 => ?_) rfl rfl
    · have hTm : toC g0 (B k) := ⟨m9, hm9, em9, ht9⟩
      show t_X d 67 27 lv [pvR (4 + 2 * m9)] g0 P
      refine t_2 otk_27 rfl (w := (px_s1 lv 6 (pvR (4 + 2 * m9)), [])) rfl ?_
      replace l0 : px_lg (px_s1 lv 6 (pvR (4 + 2 * m9))) 0 = some (pvR 189) := s1_ne (by decide) (fun _ => rfl) l0
      replace l1 : px_lg (px_s1 lv 6 (pvR (4 + 2 * m9))) 1 = some (pvR 1) := s1_ne (by decide) (fun _ => rfl) l1
      replace l2 : px_lg (px_s1 lv 6 (pvR (4 + 2 * m9))) 2 = some (oI ((N : Int))) := s1_ne (by decide) (fun _ => rfl) l2
      replace l3 : px_lg (px_s1 lv 6 (pvR (4 + 2 * m9))) 3 = some (pvR 2) := s1_ne (by decide) (fun _ => rfl) l3
      replace l4 : px_lg (px_s1 lv 6 (pvR (4 + 2 * m9))) 4 = some (.inl (M)) := s1_ne (by decide) (fun _ => rfl) l4
      replace l5 : px_lg (px_s1 lv 6 (pvR (4 + 2 * m9))) 5 = some (oI ((k : Int))) := s1_ne (by decide) (fun _ => rfl) l5
      have l6 : px_lg (px_s1 lv 6 (pvR (4 + 2 * m9))) 6 = some (pvR (4 + 2 * m9)) := s1_eq
      generalize px_s1 lv 6 (pvR (4 + 2 * m9)) = lv5 at l0 l1 l2 l3 l4 l5 l6 ⊢
      show t_X d 67 29 lv5 [] g0 P
      refine t_0 otk_29 rfl (ld_a l6) ?_
      refine t_1 otk_31 rfl (pn_nf (pc := 31) ) ?_
      show t_X d 67 34 lv5 [] g0 P
      refine t_0 otk_34 rfl (ld_i l4) ?_
      refine t_0 otk_36 rfl (ld_a l6) ?_
      refine t_0 otk_38 rfl (pq_cv (el_s4 hm9) rfl (on_m (S_J hS).1 hm9)) ?_
      show t_X d 67 41 lv5 [oI ((m9 : Int)), .inl (M)] g0 P
      refine t_0 otk_41 rfl rfl ?_
      refine t_0 otk_42 rfl rfl ?_
      refine t_0 otk_43 rfl rfl ?_
      refine tx_eq otk_44 (by decide) (fun c6 => ?_) (fun c6 => ?_)
      · show t_X d 67 49 lv5 [] g0 P
        refine t_0 otk_49 rfl (ld_i l4) ?_
        refine t_0 otk_51 rfl rfl ?_
        refine t_0 otk_52 rfl (ld_a l6) ?_
        refine t_0 otk_54 rfl (pq_cv (el_s4 hm9) rfl (on_m (S_J hS).1 hm9)) ?_
        show t_X d 67 57 lv5 [oI ((m9 : Int)), oI 1, .inl (M)] g0 P
        refine t_0 otk_57 rfl rfl ?_
        refine t_0 otk_58 rfl rfl ?_
        refine t_2 otk_59 rfl (w := (px_s1 lv5 4 (.inl ((M) ||| ((Int32.ofInt (1)) <<< ((Int32.ofInt ((m9 : Int))) &&& 31)))), [])) rfl ?_
        replace l0 : px_lg (px_s1 lv5 4 (.inl ((M) ||| ((Int32.ofInt (1)) <<< ((Int32.ofInt ((m9 : Int))) &&& 31))))) 0 = some (pvR 189) := s1_ne (by decide) (fun _ => rfl) l0
        replace l1 : px_lg (px_s1 lv5 4 (.inl ((M) ||| ((Int32.ofInt (1)) <<< ((Int32.ofInt ((m9 : Int))) &&& 31))))) 1 = some (pvR 1) := s1_ne (by decide) (fun _ => rfl) l1
        replace l2 : px_lg (px_s1 lv5 4 (.inl ((M) ||| ((Int32.ofInt (1)) <<< ((Int32.ofInt ((m9 : Int))) &&& 31))))) 2 = some (oI ((N : Int))) := s1_ne (by decide) (fun _ => rfl) l2
        replace l3 : px_lg (px_s1 lv5 4 (.inl ((M) ||| ((Int32.ofInt (1)) <<< ((Int32.ofInt ((m9 : Int))) &&& 31))))) 3 = some (pvR 2) := s1_ne (by decide) (fun _ => rfl) l3
        replace l5 : px_lg (px_s1 lv5 4 (.inl ((M) ||| ((Int32.ofInt (1)) <<< ((Int32.ofInt ((m9 : Int))) &&& 31))))) 5 = some (oI ((k : Int))) := s1_ne (by decide) (fun _ => rfl) l5
        replace l6 : px_lg (px_s1 lv5 4 (.inl ((M) ||| ((Int32.ofInt (1)) <<< ((Int32.ofInt ((m9 : Int))) &&& 31))))) 6 = some (pvR (4 + 2 * m9)) := s1_ne (by decide) (fun _ => rfl) l6
        have l4 : px_lg (px_s1 lv5 4 (.inl ((M) ||| ((Int32.ofInt (1)) <<< ((Int32.ofInt ((m9 : Int))) &&& 31))))) 4 = some (.inl ((M) ||| ((Int32.ofInt (1)) <<< ((Int32.ofInt ((m9 : Int))) &&& 31)))) := s1_eq
        generalize px_s1 lv5 4 (.inl ((M) ||| ((Int32.ofInt (1)) <<< ((Int32.ofInt ((m9 : Int))) &&& 31)))) = lv7 at l0 l1 l2 l3 l5 l6 l4 ⊢
        show t_X d 67 61 lv7 [] g0 P
        refine t_2 otk_61 rfl (w := (px_s1 lv7 5 (oI ((k : Int) + 1)), [])) (pq_inc l5 (by decide)) ?_
        replace l0 : px_lg (px_s1 lv7 5 (oI ((k : Int) + 1))) 0 = some (pvR 189) := s1_ne (by decide) (fun _ => rfl) l0
        replace l1 : px_lg (px_s1 lv7 5 (oI ((k : Int) + 1))) 1 = some (pvR 1) := s1_ne (by decide) (fun _ => rfl) l1
        replace l2 : px_lg (px_s1 lv7 5 (oI ((k : Int) + 1))) 2 = some (oI ((N : Int))) := s1_ne (by decide) (fun _ => rfl) l2
        replace l3 : px_lg (px_s1 lv7 5 (oI ((k : Int) + 1))) 3 = some (pvR 2) := s1_ne (by decide) (fun _ => rfl) l3
        replace l6 : px_lg (px_s1 lv7 5 (oI ((k : Int) + 1))) 6 = some (pvR (4 + 2 * m9)) := s1_ne (by decide) (fun _ => rfl) l6
        replace l4 : px_lg (px_s1 lv7 5 (oI ((k : Int) + 1))) 4 = some (.inl ((M) ||| ((Int32.ofInt (1)) <<< ((Int32.ofInt ((m9 : Int))) &&& 31)))) := s1_ne (by decide) (fun _ => rfl) l4
        have l5 : px_lg (px_s1 lv7 5 (oI ((k : Int) + 1))) 5 = some (oI ((k : Int) + 1)) := s1_eq
        generalize px_s1 lv7 5 (oI ((k : Int) + 1)) = lv8 at l0 l1 l2 l3 l6 l4 l5 ⊢
        show t_X d 67 64 lv8 [] g0 P
        refine t_1 otk_64 rfl (pb_goto (pc := 64) (by decide)) ?_
        show t_X d 67 6 lv8 [] g0 P
        exact ih (k + 1) _ (by omega) (by omega) (oBt_s hM hm9 em9 hTm ((ou_has hm9).mp c6)) l0 l1 l2 l3 l4 l5
      · show t_X d 67 47 lv5 [] g0 P
        refine t_0 otk_47 rfl rfl ?_
        refine t_5 otk_48 rfl rfl ?_
        refine h0 (oBt_d hM hm9 (by omega) em9 ?_)
        cases q : M.toBitVec.getLsbD m9 with
        | true => rfl
        | false => exact absurd ((ou_has hm9).mpr q) c6
    · show t_X d 67 27 lv [.inr (.inr none)] g0 P
      refine t_2 otk_27 rfl (w := (px_s1 lv 6 (.inr (.inr none)), [])) rfl ?_
      replace l0 : px_lg (px_s1 lv 6 (.inr (.inr none))) 0 = some (pvR 189) := s1_ne (by decide) (fun _ => rfl) l0
      replace l1 : px_lg (px_s1 lv 6 (.inr (.inr none))) 1 = some (pvR 1) := s1_ne (by decide) (fun _ => rfl) l1
      replace l2 : px_lg (px_s1 lv 6 (.inr (.inr none))) 2 = some (oI ((N : Int))) := s1_ne (by decide) (fun _ => rfl) l2
      replace l3 : px_lg (px_s1 lv 6 (.inr (.inr none))) 3 = some (pvR 2) := s1_ne (by decide) (fun _ => rfl) l3
      replace l4 : px_lg (px_s1 lv 6 (.inr (.inr none))) 4 = some (.inl (M)) := s1_ne (by decide) (fun _ => rfl) l4
      replace l5 : px_lg (px_s1 lv 6 (.inr (.inr none))) 5 = some (oI ((k : Int))) := s1_ne (by decide) (fun _ => rfl) l5
      have l6 : px_lg (px_s1 lv 6 (.inr (.inr none))) 6 = some (.inr (.inr none)) := s1_eq
      generalize px_s1 lv 6 (.inr (.inr none)) = lv9 at l0 l1 l2 l3 l4 l5 l6 ⊢
      show t_X d 67 29 lv9 [] g0 P
      refine t_0 otk_29 rfl (ld_a l6) ?_
      refine t_1 otk_31 rfl (pn_nt (pc := 31) (by decide)) ?_
      show t_X d 67 47 lv9 [] g0 P
      refine t_0 otk_47 rfl rfl ?_
      refine t_5 otk_48 rfl rfl ?_
      exact h0 (fun z => ht9 (z.1 k (by omega)))
set_option maxHeartbeats 2000000 in
theorem otkL2 {d N : Nat} (hd : 4 ≤ d) (hN : N ≤ 12) {g0 : pH} {va vb vc : Int} {wf wl la : tC} {M : Int32} (hM : cnt (fun j => M.toBitVec.getLsbD j) 32 = N) {P : Option pv × pH → Prop} (hC : ∀ (g : pH) (nu pl ah : tC), (∀ j : Nat, j < 32 → pl j = oz_ (fun j => M.toBitVec.getLsbD j) j) → (∀ j : Nat, j < 32 → M.toBitVec.getLsbD j = true → nu (cnt (fun j => M.toBitVec.getLsbD j) j) = j) → (∀ q : Nat, q < N → ah q = 0) → oE g0 g va vb vc N nu pl ah wf wl la → ∀ {lv : List (Nat × pv)}, px_lg lv 0 = some (pvR 189) → px_lg lv 3 = some (pvR 2) → t_X d 67 157 lv [] g P) : ∀ (m i : Nat) (g : pH) {nu pl ah : tC}, 32 - i ≤ m → i ≤ 32 → (∀ j : Nat, j < i → pl j = oz_ (fun j => M.toBitVec.getLsbD j) j) → (∀ j : Nat, j < i → M.toBitVec.getLsbD j = true → nu (cnt (fun j => M.toBitVec.getLsbD j) j) = j) → (∀ q : Nat, q < cnt (fun j => M.toBitVec.getLsbD j) i → ah q = 0) → oE g0 g va vb vc (cnt (fun j => M.toBitVec.getLsbD j) i : Int) nu pl ah wf wl la → ∀ {lv : List (Nat × pv)}, px_lg lv 0 = some (pvR 189) → px_lg lv 3 = some (pvR 2) → px_lg lv 4 = some (.inl M) → px_lg lv 5 = some (oI (i : Int)) → t_X d 67 75 lv [] g P := by
  intro m
  induction m with
  | zero =>
    intro i g nu pl ah hm hi hpl hnu hah hS lv l0 l3 l4 l5
    have hi32 : i = 32 := by omega
    subst hi32
    rw [hM] at hah
    refine t_0 otk_75 rfl (ld_i l5) ?_
    refine t_0 otk_77 rfl (pq_b (by decide)) ?_
    refine tb_ge otk_79 (by decide) ⟨by omega, by omega⟩ ⟨by omega, by omega⟩ (fun c1 => ?_) (fun c1 => absurd c1 (by omega))
    show t_X d 67 157 lv [] g P
    exact hC _ _ _ _ hpl hnu hah (by rw [hM] at hS; exact hS) l0 l3
  | succ m ih =>
    intro i g nu pl ah hm hi hpl hnu hah hS lv l0 l3 l4 l5
    have hcl := cnt_le (f := (fun j => M.toBitVec.getLsbD j)) (n := i) (m := 32) hi
    by_cases hi32 : i = 32
    · subst hi32
      rw [hM] at hah
      refine t_0 otk_75 rfl (ld_i l5) ?_
      refine t_0 otk_77 rfl (pq_b (by decide)) ?_
      refine tb_ge otk_79 (by decide) ⟨by omega, by omega⟩ ⟨by omega, by omega⟩ (fun c1 => ?_) (fun c1 => absurd c1 (by omega))
      show t_X d 67 157 lv [] g P
      exact hC _ _ _ _ hpl hnu hah (by rw [hM] at hS; exact hS) l0 l3
    refine t_0 otk_75 rfl (ld_i l5) ?_
    refine t_0 otk_77 rfl (pq_b (by decide)) ?_
    refine tb_ge otk_79 (by decide) ⟨by omega, by omega⟩ ⟨by omega, by omega⟩ (fun c1 => absurd c1 (by omega)) (fun c1 => ?_)
    show t_X d 67 82 lv [] g P
    refine t_0 otk_82 rfl (ld_a l0) ?_
    refine t_0 otk_83 rfl (ocq_189_5 (S_J hS).1) ?_
    show t_X d 67 86 lv [pvR 191] g P
    refine t_0 otk_86 rfl (ld_i l5) ?_
    refine t_0 otk_88 rfl rfl ?_
    refine ts_a (n := 1) rfl rfl (by decide) otk_89 hS oez_191 rfl wu_jO_191 ogu_191 (by decide) ⟨by omega, by omega⟩ ⟨by omega, by omega⟩ (fun g2 hS2 => ?_)
    replace hS2 : oE g0 g2 va vb vc (cnt (fun j => M.toBitVec.getLsbD j) i : Int) nu (updI pl (i : Int).toNat (-1)) ah wf wl la := hS2
    show t_X d 67 90 lv [] g2 P
    refine t_0 otk_90 rfl (ld_i l4) ?_
    refine t_0 otk_92 rfl (ld_i l5) ?_
    refine t_0 otk_94 rfl rfl ?_
    refine t_0 otk_95 rfl rfl ?_
    refine t_0 otk_96 rfl rfl ?_
    refine tx_eq otk_97 (by decide) (fun c3 => ?_) (fun c3 => ?_)
    · show t_X d 67 151 lv [] g2 P
      refine t_2 otk_151 rfl (w := (px_s1 lv 5 (oI ((i : Int) + 1)), [])) (pq_inc l5 (by decide)) ?_
      replace l0 : px_lg (px_s1 lv 5 (oI ((i : Int) + 1))) 0 = some (pvR 189) := s1_ne (by decide) (fun _ => rfl) l0
      replace l3 : px_lg (px_s1 lv 5 (oI ((i : Int) + 1))) 3 = some (pvR 2) := s1_ne (by decide) (fun _ => rfl) l3
      replace l4 : px_lg (px_s1 lv 5 (oI ((i : Int) + 1))) 4 = some (.inl (M)) := s1_ne (by decide) (fun _ => rfl) l4
      have l5 : px_lg (px_s1 lv 5 (oI ((i : Int) + 1))) 5 = some (oI ((i : Int) + 1)) := s1_eq
      generalize px_s1 lv 5 (oI ((i : Int) + 1)) = lv4 at l0 l3 l4 l5 ⊢
      show t_X d 67 154 lv4 [] g2 P
      refine t_1 otk_154 rfl (pb_goto (pc := 154) (by decide)) ?_
      show t_X d 67 75 lv4 [] g2 P
      have hb : M.toBitVec.getLsbD i = false := (ou_has (by omega)).mp c3
      have ec : cnt (fun j => M.toBitVec.getLsbD j) (i + 1) = cnt (fun j => M.toBitVec.getLsbD j) i := by show cnt (fun j => M.toBitVec.getLsbD j) i + (if M.toBitVec.getLsbD i then 1 else 0) = _; rw [hb]; rfl
      refine ih (i + 1) _ (by omega) (by omega) (fun j hj => ?_) (fun j hj hbj => ?_) (fun q hq => ?_) (by rw [ec]; exact hS2) l0 l3 l4 l5
      · unfold updI
        by_cases e : j = i
        · rw [if_pos (by rw [e]; rfl), e]; exact (if_neg (fun z => by have z : M.toBitVec.getLsbD i = true := z.2.2; rw [hb] at z; cases z)).symm
        · rw [if_neg (fun z => e (by rw [z]; rfl))]; exact hpl j (by omega)
      · by_cases e : j = i
        · rw [e, hb] at hbj; cases hbj
        · exact hnu j (by omega) hbj
      · exact hah q (by omega)
    · show t_X d 67 100 lv [] g2 P
      have hb0 : M.toBitVec.getLsbD i = true := by
        cases q : M.toBitVec.getLsbD i with
        | true => rfl
        | false => exact absurd ((ou_has (by omega)).mpr q) c3
      have hcu := cnt_u (f := (fun j => M.toBitVec.getLsbD j)) hb0 (show i < 32 by omega)
      refine t_0 otk_100 rfl (ld_a l0) ?_
      refine t_0 otk_101 rfl (pq_cv oeo_189 rfl (show cF g2 189 3 = (cnt (fun j => M.toBitVec.getLsbD j) i : Int) from S_f hS2 3 (Nat.le_of_ble_eq_true rfl))) ?_
      show t_X d 67 104 lv [oI ((cnt (fun j => M.toBitVec.getLsbD j) i : Int))] g2 P
      refine t_0 otk_104 rfl (pq_b (by decide)) ?_
      refine tb_ge otk_106 (by decide) ⟨by omega, by omega⟩ ⟨by omega, by omega⟩ (fun c5 => absurd c5 (by omega)) (fun c5 => ?_)
      show t_X d 67 109 lv [] g2 P
      refine t_0 otk_109 rfl (ld_a l0) ?_
      refine t_0 otk_110 rfl (ocq_189_4 (S_J hS2).1) ?_
      show t_X d 67 113 lv [pvR 190] g2 P
      refine t_0 otk_113 rfl (ld_a l0) ?_
      refine t_0 otk_114 rfl (pq_cv oeo_189 rfl (show cF g2 189 3 = (cnt (fun j => M.toBitVec.getLsbD j) i : Int) from S_f hS2 3 (Nat.le_of_ble_eq_true rfl))) ?_
      show t_X d 67 117 lv [oI ((cnt (fun j => M.toBitVec.getLsbD j) i : Int)), pvR 190] g2 P
      refine t_0 otk_117 rfl (ld_i l5) ?_
      refine ts_a (n := 0) rfl rfl (by decide) otk_119 hS2 oez_190 rfl wu_jO_190 ogu_190 (by decide) ⟨by omega, by omega⟩ ⟨by omega, by omega⟩ (fun g6 hS6 => ?_)
      replace hS6 : oE g0 g6 va vb vc (cnt (fun j => M.toBitVec.getLsbD j) i : Int) (updI nu (cnt (fun j => M.toBitVec.getLsbD j) i : Int).toNat (i : Int)) (updI pl (i : Int).toNat (-1)) ah wf wl la := hS6
      show t_X d 67 120 lv [] g6 P
      refine t_0 otk_120 rfl (ld_a l0) ?_
      refine t_0 otk_121 rfl (ocq_189_6 (S_J hS6).1) ?_
      show t_X d 67 124 lv [pvR 192] g6 P
      refine t_0 otk_124 rfl (ld_a l0) ?_
      refine t_0 otk_125 rfl (pq_cv oeo_189 rfl (show cF g6 189 3 = (cnt (fun j => M.toBitVec.getLsbD j) i : Int) from S_f hS6 3 (Nat.le_of_ble_eq_true rfl))) ?_
      show t_X d 67 128 lv [oI ((cnt (fun j => M.toBitVec.getLsbD j) i : Int)), pvR 192] g6 P
      refine t_0 otk_128 rfl rfl ?_
      refine ts_a (n := 2) rfl rfl (by decide) otk_129 hS6 oez_192 rfl wu_jO_192 ogu_192 (by decide) ⟨by omega, by omega⟩ ⟨by omega, by omega⟩ (fun g7 hS7 => ?_)
      replace hS7 : oE g0 g7 va vb vc (cnt (fun j => M.toBitVec.getLsbD j) i : Int) (updI nu (cnt (fun j => M.toBitVec.getLsbD j) i : Int).toNat (i : Int)) (updI pl (i : Int).toNat (-1)) (updI ah (cnt (fun j => M.toBitVec.getLsbD j) i : Int).toNat 0) wf wl la := hS7
      show t_X d 67 130 lv [] g7 P
      refine t_0 otk_130 rfl (ld_a l0) ?_
      refine t_0 otk_131 rfl (ocq_189_5 (S_J hS7).1) ?_
      show t_X d 67 134 lv [pvR 191] g7 P
      refine t_0 otk_134 rfl (ld_i l5) ?_
      refine t_0 otk_136 rfl (ld_a l0) ?_
      refine t_0 otk_137 rfl (pq_cv oeo_189 rfl (show cF g7 189 3 = (cnt (fun j => M.toBitVec.getLsbD j) i : Int) from S_f hS7 3 (Nat.le_of_ble_eq_true rfl))) ?_
      show t_X d 67 140 lv [oI ((cnt (fun j => M.toBitVec.getLsbD j) i : Int)), oI ((i : Int)), pvR 191] g7 P
      refine ts_a (n := 1) rfl rfl (by decide) otk_140 hS7 oez_191 rfl wu_jO_191 ogu_191 (by decide) ⟨by omega, by omega⟩ ⟨by omega, by omega⟩ (fun g8 hS8 => ?_)
      replace hS8 : oE g0 g8 va vb vc (cnt (fun j => M.toBitVec.getLsbD j) i : Int) (updI nu (cnt (fun j => M.toBitVec.getLsbD j) i : Int).toNat (i : Int)) (updI (updI pl (i : Int).toNat (-1)) (i : Int).toNat (cnt (fun j => M.toBitVec.getLsbD j) i : Int)) (updI ah (cnt (fun j => M.toBitVec.getLsbD j) i : Int).toNat 0) wf wl la := hS8
      show t_X d 67 141 lv [] g8 P
      refine t_0 otk_141 rfl (ld_a l0) ?_
      refine t_0 otk_142 rfl rfl ?_
      refine t_0 otk_143 rfl (pq_cv oeo_189 rfl (show cF g8 189 3 = (cnt (fun j => M.toBitVec.getLsbD j) i : Int) from S_f hS8 3 (Nat.le_of_ble_eq_true rfl))) ?_
      show t_X d 67 146 lv [oI ((cnt (fun j => M.toBitVec.getLsbD j) i : Int)), pvR 189] g8 P
      refine t_0 otk_146 rfl rfl ?_
      refine t_0 otk_147 rfl pq_add ?_
      refine ts_f (n := 3) rfl rfl (by decide) otk_148 rfl oeo_189 hS8 wt_jO_189_3 ogy_189_3 (by decide) ⟨by omega, by omega⟩ (fun g9 hS9 => ?_)
      replace hS9 : oE g0 g9 va vb vc ((cnt (fun j => M.toBitVec.getLsbD j) i : Int) + 1) (updI nu (cnt (fun j => M.toBitVec.getLsbD j) i : Int).toNat (i : Int)) (updI (updI pl (i : Int).toNat (-1)) (i : Int).toNat (cnt (fun j => M.toBitVec.getLsbD j) i : Int)) (updI ah (cnt (fun j => M.toBitVec.getLsbD j) i : Int).toNat 0) wf wl la := hS9
      show t_X d 67 151 lv [] g9 P
      refine t_2 otk_151 rfl (w := (px_s1 lv 5 (oI ((i : Int) + 1)), [])) (pq_inc l5 (by decide)) ?_
      replace l0 : px_lg (px_s1 lv 5 (oI ((i : Int) + 1))) 0 = some (pvR 189) := s1_ne (by decide) (fun _ => rfl) l0
      replace l3 : px_lg (px_s1 lv 5 (oI ((i : Int) + 1))) 3 = some (pvR 2) := s1_ne (by decide) (fun _ => rfl) l3
      replace l4 : px_lg (px_s1 lv 5 (oI ((i : Int) + 1))) 4 = some (.inl (M)) := s1_ne (by decide) (fun _ => rfl) l4
      have l5 : px_lg (px_s1 lv 5 (oI ((i : Int) + 1))) 5 = some (oI ((i : Int) + 1)) := s1_eq
      generalize px_s1 lv 5 (oI ((i : Int) + 1)) = lv10 at l0 l3 l4 l5 ⊢
      show t_X d 67 154 lv10 [] g9 P
      refine t_1 otk_154 rfl (pb_goto (pc := 154) (by decide)) ?_
      show t_X d 67 75 lv10 [] g9 P
      have hb : M.toBitVec.getLsbD i = true := by
        cases q : M.toBitVec.getLsbD i with
        | true => rfl
        | false => exact absurd ((ou_has (by omega)).mpr q) c3
      have ec : cnt (fun j => M.toBitVec.getLsbD j) (i + 1) = cnt (fun j => M.toBitVec.getLsbD j) i + 1 := by show cnt (fun j => M.toBitVec.getLsbD j) i + (if M.toBitVec.getLsbD i then 1 else 0) = _; rw [hb]; rfl
      refine ih (i + 1) _ (by omega) (by omega) (fun j hj => ?_) (fun j hj hbj => ?_) (fun q hq => ?_) (by rw [ec]; exact hS9) l0 l3 l4 l5
      · unfold updI
        by_cases e : j = i
        · rw [if_pos (by rw [e]; rfl), e]; exact (if_pos ⟨by omega, by omega, hb⟩).symm
        · rw [if_neg (fun z => e (by rw [z]; rfl)), if_neg (fun z => e (by rw [z]; rfl))]; exact hpl j (by omega)
      · unfold updI
        by_cases e : j = i
        · rw [e]; exact if_pos rfl
        · have := cnt_u (f := (fun j => M.toBitVec.getLsbD j)) hbj (show j < i by omega)
          rw [if_neg (fun z => by have z : cnt (fun j => M.toBitVec.getLsbD j) j = cnt (fun j => M.toBitVec.getLsbD j) i := z; omega)]; exact hnu j (by omega) hbj
      · unfold updI
        by_cases e : q = cnt (fun j => M.toBitVec.getLsbD j) i
        · rw [if_pos (by rw [e]; rfl)]
        · rw [if_neg (fun z => e (by rw [z]; rfl))]; exact hah q (by omega)
set_option maxHeartbeats 2000000 in
theorem otk_run {d N : Nat} (hd : 4 ≤ d) (hN : N ≤ 12) {g0 : pH} (hrS : rS g0) {va vb vc vn : Int} {B : tC} (hB : fA g0 1 = B) {P : Option pv × pH → Prop} {cl : Int} {nu pl ah wf wl la ca cb : tC} (hcl : cF g0 70 2 = cl) (hca : fA g0 71 = ca) (hcb : fA g0 72 = cb) (hcl2 : 0 ≤ cl ∧ cl ≤ 24) (hS : oE g0 g0 va vb vc vn nu pl ah wf wl la) (h0 : ¬ oGd (toC g0) B N → P (some (oI 0), g0)) (h1 : ∀ (M : Int32), oBt (toC g0) B N M → ∀ (g : pH) (nu pl ah : tC), oPl (fun j => M.toBitVec.getLsbD j) pl → oNu (fun j => M.toBitVec.getLsbD j) nu → (∀ q : Nat, q < N → ah q = (oCk (oz_ (fun j => M.toBitVec.getLsbD j)) ca cb cl.toNat q : Int)) → oE g0 g va vb vc N nu pl ah wf wl la → P (some (oI 1), g)) {lv : List (Nat × pv)} (l0 : px_lg lv 0 = some (pvR 189)) (l1 : px_lg lv 1 = some (pvR 1)) (l2 : px_lg lv 2 = some (oI (N : Int))) (l3 : px_lg lv 3 = some (pvR 2)) : t_X d 67 0 lv [] g0 P := by
  refine t_0 otk_0 rfl rfl ?_
  refine t_2 otk_1 rfl (w := (px_s1 lv 4 (oI 0), [])) rfl ?_
  replace l0 : px_lg (px_s1 lv 4 (oI 0)) 0 = some (pvR 189) := s1_ne (by decide) (fun _ => rfl) l0
  replace l1 : px_lg (px_s1 lv 4 (oI 0)) 1 = some (pvR 1) := s1_ne (by decide) (fun _ => rfl) l1
  replace l2 : px_lg (px_s1 lv 4 (oI 0)) 2 = some (oI ((N : Int))) := s1_ne (by decide) (fun _ => rfl) l2
  replace l3 : px_lg (px_s1 lv 4 (oI 0)) 3 = some (pvR 2) := s1_ne (by decide) (fun _ => rfl) l3
  have l4 : px_lg (px_s1 lv 4 (oI 0)) 4 = some (oI 0) := s1_eq
  generalize px_s1 lv 4 (oI 0) = lv1 at l0 l1 l2 l3 l4 ⊢
  show t_X d 67 3 lv1 [] g0 P
  refine t_0 otk_3 rfl rfl ?_
  refine t_2 otk_4 rfl (w := (px_s1 lv1 5 (oI 0), [])) rfl ?_
  replace l0 : px_lg (px_s1 lv1 5 (oI 0)) 0 = some (pvR 189) := s1_ne (by decide) (fun _ => rfl) l0
  replace l1 : px_lg (px_s1 lv1 5 (oI 0)) 1 = some (pvR 1) := s1_ne (by decide) (fun _ => rfl) l1
  replace l2 : px_lg (px_s1 lv1 5 (oI 0)) 2 = some (oI ((N : Int))) := s1_ne (by decide) (fun _ => rfl) l2
  replace l3 : px_lg (px_s1 lv1 5 (oI 0)) 3 = some (pvR 2) := s1_ne (by decide) (fun _ => rfl) l3
  replace l4 : px_lg (px_s1 lv1 5 (oI 0)) 4 = some (oI 0) := s1_ne (by decide) (fun _ => rfl) l4
  have l5 : px_lg (px_s1 lv1 5 (oI 0)) 5 = some (oI 0) := s1_eq
  generalize px_s1 lv1 5 (oI 0) = lv2 at l0 l1 l2 l3 l4 l5 ⊢
  show t_X d 67 6 lv2 [] g0 P
  refine otkL1 hd hN hrS hB hS h0 (fun M hM {lv9} l0 l1 l2 l3 l4 => ?_) N 0 _ (by omega) (by omega) oBt_0 l0 l1 l2 l3 l4 l5
  show t_X d 67 67 lv9 [] g0 P
  refine t_0 otk_67 rfl (ld_a l0) ?_
  refine t_0 otk_68 rfl rfl ?_
  refine ts_f (n := 3) rfl rfl (by decide) otk_69 rfl oeo_189 hS wt_jO_189_3 ogy_189_3 (by decide) ⟨by omega, by omega⟩ (fun g3 hS3 => ?_)
  replace hS3 : oE g0 g3 va vb vc 0 nu pl ah wf wl la := hS3
  show t_X d 67 72 lv9 [] g3 P
  refine t_0 otk_72 rfl rfl ?_
  refine t_2 otk_73 rfl (w := (px_s1 lv9 5 (oI 0), [])) rfl ?_
  replace l0 : px_lg (px_s1 lv9 5 (oI 0)) 0 = some (pvR 189) := s1_ne (by decide) (fun _ => rfl) l0
  replace l1 : px_lg (px_s1 lv9 5 (oI 0)) 1 = some (pvR 1) := s1_ne (by decide) (fun _ => rfl) l1
  replace l2 : px_lg (px_s1 lv9 5 (oI 0)) 2 = some (oI ((N : Int))) := s1_ne (by decide) (fun _ => rfl) l2
  replace l3 : px_lg (px_s1 lv9 5 (oI 0)) 3 = some (pvR 2) := s1_ne (by decide) (fun _ => rfl) l3
  replace l4 : px_lg (px_s1 lv9 5 (oI 0)) 4 = some (.inl (M)) := s1_ne (by decide) (fun _ => rfl) l4
  have l5 : px_lg (px_s1 lv9 5 (oI 0)) 5 = some (oI 0) := s1_eq
  generalize px_s1 lv9 5 (oI 0) = lv4 at l0 l1 l2 l3 l4 l5 ⊢
  show t_X d 67 75 lv4 [] g3 P
  refine otkL2 hd hN (N := N) hM.2.2 (fun g8 nu8 pl8 ah8 hpl8 hnu8 hah8 hS8 {lv8} l0 l3 => ?_) 32 0 _ (by omega) (by omega) (fun j hj => absurd hj (Nat.not_lt_zero _)) (fun j hj => absurd hj (Nat.not_lt_zero _)) (fun j hj => absurd hj (Nat.not_lt_zero _)) hS3 l0 l3 l4 l5
  show t_X d 67 157 lv8 [] g8 P
  refine t_0 otk_157 rfl (ld_a l0) ?_
  refine t_0 otk_158 rfl (ld_a l3) ?_
  refine t_0 otk_159 rfl (ocq_2_5 (S_J hS8).1) ?_
  show t_X d 67 162 lv8 [pvR 70, pvR 189] g8 P
  refine t_3 otk_162 rfl (ar := ([pvR 189, pvR 70], [])) (pcal_w (as := [pvR 70]) rfl rfl rfl oeo_189) ⟨by omega, Nat.le_of_ble_eq_true rfl, Nat.le_of_ble_eq_true rfl, rfl⟩ ?_
  refine otc_run (by omega) hcl hca hcb hcl2 (b := (fun j => M.toBitVec.getLsbD j)) hM.2.2 hN hpl8 hah8 hS8 (fun g7 ah7 hS7 hah9 => ?_) rfl rfl
  show t_X d 67 165 lv8 [] g7 P
  refine t_0 otk_165 rfl rfl ?_
  refine t_5 otk_166 rfl rfl ?_
  exact h1 M hM _ _ _ _ hpl8 hnu8 hah9 hS7
