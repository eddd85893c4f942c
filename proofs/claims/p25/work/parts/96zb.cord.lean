/-! orders of the class, exactly: counting all (printed by wip/e2/x1.py) -/
theorem oca_0 : xe_look (xc 60) 0 = some (.iconst 1, 1, 0, 0, 0) := by decide +kernel
theorem oca_1 : xe_look (xc 60) 1 = some (.aload_n 0, 1, 0, 0, 0) := by decide +kernel
theorem oca_2 : xe_look (xc 60) 2 = some (.getfield 42, 3, 5, 3, 880) := by decide +kernel
theorem oca_5 : xe_look (xc 60) 5 = some (.ishl, 1, 0, 0, 0) := by decide +kernel
theorem oca_6 : xe_look (xc 60) 6 = some (.iconst 1, 1, 0, 0, 0) := by decide +kernel
theorem oca_7 : xe_look (xc 60) 7 = some (.isub, 1, 0, 0, 0) := by decide +kernel
theorem oca_8 : xe_look (xc 60) 8 = some (.istore_n 1, 1, 0, 0, 0) := by decide +kernel
theorem oca_9 : xe_look (xc 60) 9 = some (.iconst 1, 1, 0, 0, 0) := by decide +kernel
theorem oca_10 : xe_look (xc 60) 10 = some (.istore_n 2, 1, 0, 0, 0) := by decide +kernel
theorem oca_11 : xe_look (xc 60) 11 = some (.iload_n 2, 1, 0, 0, 0) := by decide +kernel
theorem oca_12 : xe_look (xc 60) 12 = some (.iload_n 1, 1, 0, 0, 0) := by decide +kernel
theorem oca_13 : xe_look (xc 60) 13 = some (.if_icmp .gt 16, 3, 0, 0, 0) := by decide +kernel
theorem oca_16 : xe_look (xc 60) 16 = some (.aload_n 0, 1, 0, 0, 0) := by decide +kernel
theorem oca_17 : xe_look (xc 60) 17 = some (.getfield 21, 3, 5, 7, 878) := by decide +kernel
theorem oca_20 : xe_look (xc 60) 20 = some (.iload_n 2, 1, 0, 0, 0) := by decide +kernel
theorem oca_21 : xe_look (xc 60) 21 = some (.iconst 0, 1, 0, 0, 0) := by decide +kernel
theorem oca_22 : xe_look (xc 60) 22 = some (.iastore, 1, 0, 0, 0) := by decide +kernel
theorem oca_23 : xe_look (xc 60) 23 = some (.iinc 2 1, 3, 0, 0, 0) := by decide +kernel
theorem oca_26 : xe_look (xc 60) 26 = some (.goto (-15), 3, 0, 0, 0) := by decide +kernel
theorem oca_29 : xe_look (xc 60) 29 = some (.aload_n 0, 1, 0, 0, 0) := by decide +kernel
theorem oca_30 : xe_look (xc 60) 30 = some (.getfield 21, 3, 5, 7, 878) := by decide +kernel
theorem oca_33 : xe_look (xc 60) 33 = some (.iconst 0, 1, 0, 0, 0) := by decide +kernel
theorem oca_34 : xe_look (xc 60) 34 = some (.iconst 1, 1, 0, 0, 0) := by decide +kernel
theorem oca_35 : xe_look (xc 60) 35 = some (.iastore, 1, 0, 0, 0) := by decide +kernel
theorem oca_36 : xe_look (xc 60) 36 = some (.iconst 0, 1, 0, 0, 0) := by decide +kernel
theorem oca_37 : xe_look (xc 60) 37 = some (.istore_n 2, 1, 0, 0, 0) := by decide +kernel
theorem oca_38 : xe_look (xc 60) 38 = some (.iload_n 2, 1, 0, 0, 0) := by decide +kernel
theorem oca_39 : xe_look (xc 60) 39 = some (.iload_n 1, 1, 0, 0, 0) := by decide +kernel
theorem oca_40 : xe_look (xc 60) 40 = some (.if_icmp .ge 62, 3, 0, 0, 0) := by decide +kernel
theorem oca_43 : xe_look (xc 60) 43 = some (.iconst 0, 1, 0, 0, 0) := by decide +kernel
theorem oca_44 : xe_look (xc 60) 44 = some (.istore_n 3, 1, 0, 0, 0) := by decide +kernel
theorem oca_45 : xe_look (xc 60) 45 = some (.iload_n 3, 1, 0, 0, 0) := by decide +kernel
theorem oca_46 : xe_look (xc 60) 46 = some (.aload_n 0, 1, 0, 0, 0) := by decide +kernel
theorem oca_47 : xe_look (xc 60) 47 = some (.getfield 42, 3, 5, 3, 880) := by decide +kernel
theorem oca_50 : xe_look (xc 60) 50 = some (.if_icmp .ge 46, 3, 0, 0, 0) := by decide +kernel
theorem oca_53 : xe_look (xc 60) 53 = some (.aload_n 0, 1, 0, 0, 0) := by decide +kernel
theorem oca_54 : xe_look (xc 60) 54 = some (.getfield 21, 3, 5, 7, 878) := by decide +kernel
theorem oca_57 : xe_look (xc 60) 57 = some (.iload_n 2, 1, 0, 0, 0) := by decide +kernel
theorem oca_58 : xe_look (xc 60) 58 = some (.iaload, 1, 0, 0, 0) := by decide +kernel
theorem oca_59 : xe_look (xc 60) 59 = some (.ifCond .eq 37, 3, 0, 0, 0) := by decide +kernel
theorem oca_62 : xe_look (xc 60) 62 = some (.aload_n 0, 1, 0, 0, 0) := by decide +kernel
theorem oca_63 : xe_look (xc 60) 63 = some (.iload_n 3, 1, 0, 0, 0) := by decide +kernel
theorem oca_64 : xe_look (xc 60) 64 = some (.iload_n 2, 1, 0, 0, 0) := by decide +kernel
theorem oca_65 : xe_look (xc 60) 65 = some (.invokevirtual 70, 3, 0, 58, 886) := by decide +kernel
theorem oca_68 : xe_look (xc 60) 68 = some (.ifCond .eq 22, 3, 0, 0, 0) := by decide +kernel
theorem oca_71 : xe_look (xc 60) 71 = some (.aload_n 0, 1, 0, 0, 0) := by decide +kernel
theorem oca_72 : xe_look (xc 60) 72 = some (.getfield 21, 3, 5, 7, 878) := by decide +kernel
theorem oca_75 : xe_look (xc 60) 75 = some (.iload_n 2, 1, 0, 0, 0) := by decide +kernel
theorem oca_76 : xe_look (xc 60) 76 = some (.iconst 1, 1, 0, 0, 0) := by decide +kernel
theorem oca_77 : xe_look (xc 60) 77 = some (.iload_n 3, 1, 0, 0, 0) := by decide +kernel
theorem oca_78 : xe_look (xc 60) 78 = some (.ishl, 1, 0, 0, 0) := by decide +kernel
theorem oca_79 : xe_look (xc 60) 79 = some (.ior, 1, 0, 0, 0) := by decide +kernel
theorem oca_80 : xe_look (xc 60) 80 = some (.dup2, 1, 0, 0, 0) := by decide +kernel
theorem oca_81 : xe_look (xc 60) 81 = some (.iaload, 1, 0, 0, 0) := by decide +kernel
theorem oca_82 : xe_look (xc 60) 82 = some (.aload_n 0, 1, 0, 0, 0) := by decide +kernel
theorem oca_83 : xe_look (xc 60) 83 = some (.getfield 21, 3, 5, 7, 878) := by decide +kernel
theorem oca_86 : xe_look (xc 60) 86 = some (.iload_n 2, 1, 0, 0, 0) := by decide +kernel
theorem oca_87 : xe_look (xc 60) 87 = some (.iaload, 1, 0, 0, 0) := by decide +kernel
theorem oca_88 : xe_look (xc 60) 88 = some (.iadd, 1, 0, 0, 0) := by decide +kernel
theorem oca_89 : xe_look (xc 60) 89 = some (.iastore, 1, 0, 0, 0) := by decide +kernel
theorem oca_90 : xe_look (xc 60) 90 = some (.iinc 3 1, 3, 0, 0, 0) := by decide +kernel
theorem oca_93 : xe_look (xc 60) 93 = some (.goto (-48), 3, 0, 0, 0) := by decide +kernel
theorem oca_96 : xe_look (xc 60) 96 = some (.iinc 2 1, 3, 0, 0, 0) := by decide +kernel
theorem oca_99 : xe_look (xc 60) 99 = some (.goto (-61), 3, 0, 0, 0) := by decide +kernel
theorem oca_102 : xe_look (xc 60) 102 = some (.aload_n 0, 1, 0, 0, 0) := by decide +kernel
theorem oca_103 : xe_look (xc 60) 103 = some (.getfield 21, 3, 5, 7, 878) := by decide +kernel
theorem oca_106 : xe_look (xc 60) 106 = some (.iload_n 1, 1, 0, 0, 0) := by decide +kernel
theorem oca_107 : xe_look (xc 60) 107 = some (.iaload, 1, 0, 0, 0) := by decide +kernel
theorem oca_108 : xe_look (xc 60) 108 = some (.ireturn, 1, 0, 0, 0) := by decide +kernel
theorem ocf_0 : xe_look (xc 58) 0 = some (.iload_n 2, 1, 0, 0, 0) := by decide +kernel
theorem ocf_1 : xe_look (xc 58) 1 = some (.iload_n 1, 1, 0, 0, 0) := by decide +kernel
theorem ocf_2 : xe_look (xc 58) 2 = some (.ishr, 1, 0, 0, 0) := by decide +kernel
theorem ocf_3 : xe_look (xc 58) 3 = some (.iconst 1, 1, 0, 0, 0) := by decide +kernel
theorem ocf_4 : xe_look (xc 58) 4 = some (.iand, 1, 0, 0, 0) := by decide +kernel
theorem ocf_5 : xe_look (xc 58) 5 = some (.ifCond .ne 20, 3, 0, 0, 0) := by decide +kernel
theorem ocf_8 : xe_look (xc 58) 8 = some (.aload_n 0, 1, 0, 0, 0) := by decide +kernel
theorem ocf_9 : xe_look (xc 58) 9 = some (.getfield 18, 3, 5, 6, 882) := by decide +kernel
theorem ocf_12 : xe_look (xc 58) 12 = some (.iload_n 1, 1, 0, 0, 0) := by decide +kernel
theorem ocf_13 : xe_look (xc 58) 13 = some (.iaload, 1, 0, 0, 0) := by decide +kernel
theorem ocf_14 : xe_look (xc 58) 14 = some (.iload_n 2, 1, 0, 0, 0) := by decide +kernel
theorem ocf_15 : xe_look (xc 58) 15 = some (.iconst (-1), 1, 0, 0, 0) := by decide +kernel
theorem ocf_16 : xe_look (xc 58) 16 = some (.ixor, 1, 0, 0, 0) := by decide +kernel
theorem ocf_17 : xe_look (xc 58) 17 = some (.iand, 1, 0, 0, 0) := by decide +kernel
theorem ocf_18 : xe_look (xc 58) 18 = some (.ifCond .ne 7, 3, 0, 0, 0) := by decide +kernel
theorem ocf_21 : xe_look (xc 58) 21 = some (.iconst 1, 1, 0, 0, 0) := by decide +kernel
theorem ocf_22 : xe_look (xc 58) 22 = some (.goto 4, 3, 0, 0, 0) := by decide +kernel
theorem ocf_25 : xe_look (xc 58) 25 = some (.iconst 0, 1, 0, 0, 0) := by decide +kernel
theorem ocf_26 : xe_look (xc 58) 26 = some (.ireturn, 1, 0, 0, 0) := by decide +kernel
def jO : Nat := 2 ^ (cn 0 + 1) + 2 ^ (cn 189 + 0) + 2 ^ (cn 189 + 1) + 2 ^ (cn 189 + 2) + 2 ^ (cn 189 + 3) + 2 ^ cn 190 + 2 ^ cn 191 + 2 ^ cn 192 + 2 ^ cn 193 + 2 ^ cn 194 + 2 ^ cn 195
def oqk : List (Nat × Nat) := [(189, 0), (189, 1), (189, 2), (189, 3)]
def oqa : List Nat := [190, 191, 192, 193, 194, 195]
/-- the orders of the class: telling low, high, lesser, how many; numbers, places, ahead, ways first, ways last, low ahead -/
abbrev oE (g0 g : pH) (va vb vc vn : Int) (nu pl ah wf wl la : tC) : Prop := sE oqk oqa jO g0 g [va, vb, vc, vn] [nu, pl, ah, wf, wl, la]
def oAh (A : Nat → Nat) (n : Nat) (ah : tC) : Prop := ∀ k : Nat, k < n → ah k = (A k : Int) ∧ A k < 4096
/-- as an int holds it -/
def b32 (x : Int) : Int := (Int32.ofInt x).toInt
theorem b32_o (x : Int) : (oI x : pv) = oI (b32 x) := oI_r (Int32.ofInt x)
theorem b32_b (x : Int) : -2147483648 ≤ b32 x ∧ b32 x ≤ 2147483647 := i32_b _
theorem b32_i {x : Int} (h0 : -2147483648 ≤ x) (h1 : x ≤ 2147483647) : b32 x = x := oT h0 h1
theorem b32_e {x y : Int} (h : Int32.ofInt x = Int32.ofInt y) : b32 x = b32 y := congrArg Int32.toInt h
theorem b32_h (x : Int) : Int32.ofInt (b32 x) = Int32.ofInt x := Int32.ofInt_toInt _
theorem b32_q {x y : Int} (h : b32 x = b32 y) : Int32.ofInt x = Int32.ofInt y := Int32.toInt_inj.mp h
theorem b32_a {x y : Int} : b32 (b32 x + b32 y) = b32 (x + y) := b32_e (by rw [Int32.ofInt_add, Int32.ofInt_add, b32_h, b32_h])
theorem b32_al {x y : Int} : b32 (b32 x + y) = b32 (x + y) := b32_e (by rw [Int32.ofInt_add, Int32.ofInt_add, b32_h])
theorem b32_m {x y : Int} : b32 (b32 x * b32 y) = b32 (x * y) := b32_e (by rw [Int32.ofInt_mul, Int32.ofInt_mul, b32_h, b32_h])
theorem b32_z {x w m : Int} (h : b32 w = 0) : b32 (x + m * w) = b32 x := b32_e (by
  have h1 : Int32.ofInt w = 0 := (b32_q (y := 0) (h.trans (b32_i (by decide) (by decide)).symm)).trans z_oI.symm
  rw [Int32.ofInt_add, Int32.ofInt_mul, h1, Int32.mul_zero, Int32.add_zero])
theorem oc_1 {s k : Nat} (hk : k < 12) : ((Int32.ofInt (s : Int)) >>> ((Int32.ofInt (k : Int)) &&& 31)) &&& (Int32.ofInt 1) = 0 ↔ s.testBit k = false := by
  rw [← nI_o s, ← nI_o k, bt_and (by omega), ← Int32.toBitVec_inj, Int32.toBitVec_and, Int32.toBitVec_shiftRight]
  have e1 : (Int32.ofInt 1).toBitVec = 1#32 := by decide
  rw [e1, BitVec.and_one_eq_setWidth_ofBool_getLsbD, BitVec.sshiftRight', BitVec.getLsbD_sshiftRight]
  have e2 := bt_mod (j := k) (by omega)
  rw [e2, Nat.add_zero, if_pos (show k < 32 by omega), show (!decide (32 ≤ 0)) = true from rfl, Bool.true_and]
  have e4 : (nI s).toBitVec.getLsbD k = s.testBit k := by
    show (BitVec.ofNat 32 s).getLsbD k = _
    rw [BitVec.getLsbD_ofNat, decide_eq_true (by omega : k < 32), Bool.true_and]
  rw [e4]
  cases s.testBit k <;> decide
theorem oc_2 {a s : Nat} (ha : a < 4096) : (Int32.ofInt (a : Int)) &&& ((Int32.ofInt (s : Int)) ^^^ (Int32.ofInt (-1))) = 0 ↔ a &&& s = a := by
  rw [← nI_o a, ← nI_o s, ← Int32.toBitVec_inj, Int32.toBitVec_and, Int32.toBitVec_xor]
  have e1 : (Int32.ofInt (-1)).toBitVec = BitVec.allOnes 32 := by decide
  have e0 : (0 : Int32).toBitVec = 0#32 := rfl
  have ea : ∀ i, i < 32 → (nI a).toBitVec.getLsbD i = a.testBit i := fun i hi => by
    show (BitVec.ofNat 32 a).getLsbD i = _
    rw [BitVec.getLsbD_ofNat, decide_eq_true hi, Bool.true_and]
  have es : ∀ i, i < 32 → (nI s).toBitVec.getLsbD i = s.testBit i := fun i hi => by
    show (BitVec.ofNat 32 s).getLsbD i = _
    rw [BitVec.getLsbD_ofNat, decide_eq_true hi, Bool.true_and]
  rw [e1, e0]
  constructor
  · intro h
    refine Nat.eq_of_testBit_eq (fun i => ?_)
    rw [Nat.testBit_and]
    by_cases hi : i < 32
    · have h2 := congrArg (fun x => BitVec.getLsbD x i) h
      have h3 : (a.testBit i && (s.testBit i ^^ true)) = false := by
        have h4 : ((nI a).toBitVec &&& ((nI s).toBitVec ^^^ BitVec.allOnes 32)).getLsbD i = (0#32).getLsbD i := h2
        rw [BitVec.getLsbD_and, BitVec.getLsbD_xor, BitVec.getLsbD_allOnes, ea i hi, es i hi, decide_eq_true hi, BitVec.getLsbD_zero] at h4
        exact h4
      revert h3
      cases a.testBit i <;> cases s.testBit i <;> decide
    · have h5 : a.testBit i = false := Nat.testBit_lt_two_pow (Nat.lt_of_lt_of_le ha (Nat.le_trans (show 4096 ≤ 2 ^ 32 by decide) (Nat.pow_le_pow_right (by decide) (by omega))))
      rw [h5, Bool.false_and]
  · intro h
    apply BitVec.eq_of_getLsbD_eq
    intro i hi
    have h2 := congrArg (fun x => x.testBit i) h
    have h3 : (a.testBit i && s.testBit i) = a.testBit i := by
      rw [← Nat.testBit_and]
      exact h2
    rw [BitVec.getLsbD_and, BitVec.getLsbD_xor, BitVec.getLsbD_allOnes, ea i hi, es i hi, decide_eq_true hi, BitVec.getLsbD_zero]
    revert h3
    cases a.testBit i <;> cases s.testBit i <;> decide
theorem ixo_ {s k : Nat} (hs : s < 4096) (hk : k < 12) : (Int32.ofInt (s : Int)) ||| ((Int32.ofInt 1) <<< ((Int32.ofInt (k : Int)) &&& 31)) = Int32.ofInt ((s ||| 2 ^ k : Nat) : Int) := by
  have h := ix_t hs hk
  have h2 : Int32.ofInt (ixC s k).toInt = ixC s k := Int32.ofInt_toInt _
  rw [h] at h2
  exact h2.symm
theorem ix_x {s k : Nat} (hs : s < 4096) (hk : k < 12) (h : s.testBit k = false) : (Int32.ofInt ((s ||| 2 ^ k : Nat) : Int)) ^^^ ((Int32.ofInt 1) <<< ((Int32.ofInt (k : Int)) &&& 31)) = Int32.ofInt (s : Int) := by
  rw [← ixo_ hs hk, ← nI_o s, ← nI_o k, ← Int32.toBitVec_inj, Int32.toBitVec_xor, Int32.toBitVec_or, Int32.toBitVec_shiftLeft, bt_and (by omega)]
  have e3 : (Int32.ofInt 1).toBitVec <<< (nI k).toBitVec.smod 32 = 1#32 <<< k := by
    have e2 := bt_mod (j := k) (by omega)
    show (1#32) <<< ((nI k).toBitVec.smod 32).toNat = _
    rw [e2]
  rw [e3]
  apply BitVec.eq_of_getLsbD_eq
  intro i hi
  have es : (nI s).toBitVec.getLsbD i = s.testBit i := by
    show (BitVec.ofNat 32 s).getLsbD i = _
    rw [BitVec.getLsbD_ofNat, decide_eq_true hi, Bool.true_and]
  rw [BitVec.getLsbD_xor, BitVec.getLsbD_or, es, BitVec.getLsbD_shiftLeft, BitVec.getLsbD_one]
  by_cases q : i = k
  · subst q
    rw [h]
    cases decide (i < 32) <;> cases decide (i < i) <;> simp
  · have e5 : (decide (i < 32) && !decide (i < k) && (decide (0 < 32) && decide (i - k = 0))) = false := by
      by_cases q2 : i < k
      · rw [decide_eq_true q2]; cases decide (i < 32) <;> rfl
      · rw [decide_eq_false (show ¬ i - k = 0 by omega), Bool.and_false, Bool.and_false]
    rw [e5, Bool.or_false, Bool.xor_false]
section OPX
variable {d x y : Nat} {lv : List (Nat × pv)} {r : List pv} {h : pH} {s k : Nat}
theorem pq_orx (hs : s < 4096) (hk : k < 12) : px_push eL d none .ior x y lv (.inl ((Int32.ofInt 1) <<< ((Int32.ofInt (k : Int)) &&& 31)) :: oI (s : Int) :: r) h = some (oI ((s ||| 2 ^ k : Nat) : Int) :: r) := by
  show some ((.inl (Int32.ofInt (s : Int) ||| ((Int32.ofInt 1) <<< ((Int32.ofInt (k : Int)) &&& 31))) : pv) :: r) = _
  rw [ixo_ hs hk]
theorem pq_xrx (hs : s < 4096) (hk : k < 12) (hb : s.testBit k = false) : px_push eL d none .ixor x y lv (.inl ((Int32.ofInt 1) <<< ((Int32.ofInt (k : Int)) &&& 31)) :: oI ((s ||| 2 ^ k : Nat) : Int) :: r) h = some (oI (s : Int) :: r) := by
  show some ((.inl (Int32.ofInt ((s ||| 2 ^ k : Nat) : Int) ^^^ ((Int32.ofInt 1) <<< ((Int32.ofInt (k : Int)) &&& 31))) : pv) :: r) = _
  rw [ix_x hs hk hb]
end OPX
theorem oV_z {A : Nat → Nat} {N s i j T : Nat} (h : b32 (oW A N s s) = 0) : b32 (oV A N s i T) = b32 (oV A N s j T) := by
  have f : ∀ i, ∃ m, oV A N s i T = oW A N s T + m * oW A N s s := fun i => by
    unfold oV
    induction i with
    | zero => exact ⟨0, by rw [Int.zero_mul]; rfl⟩
    | succ i ih =>
      obtain ⟨m, hm⟩ := ih
      by_cases q : oc A i s = true ∧ T = s ||| 2 ^ i
      · refine ⟨m + 1, ?_⟩
        show oW A N s T + (oS _ i + (if oc A i s = true ∧ T = s ||| 2 ^ i then oW A N s s else 0)) = _
        rw [if_pos q, ← Int.add_assoc, hm, Int.add_mul, Int.one_mul, Int.add_assoc]
      · refine ⟨m, ?_⟩
        show oW A N s T + (oS _ i + (if oc A i s = true ∧ T = s ||| 2 ^ i then oW A N s s else 0)) = _
        rw [if_neg q, Int.add_zero, hm]
  obtain ⟨a, ha⟩ := f i
  obtain ⟨b, hb⟩ := f j
  rw [ha, hb, b32_z h, b32_z h]
theorem oeo_189 : eL[189]? = some (0, 5) := by decide +kernel
theorem ogu_192 : eG (cn 192) = (0, 4095, []) := by decide +kernel
theorem ogu_193 : eG (cn 193) = ((-2147483648), 2147483647, []) := by decide +kernel
theorem och_189_6 : (eG (cn 189 + 6)).2.2 = [193] := by decide +kernel
theorem ocq_189_6 {d i : Nat} {lv : List (Nat × pv)} {r : List pv} {g : pH} (hG : g_I eG g) : px_push eL d none (.getfield i) 5 6 lv (pvR 189 :: r) g = some (pvR 192 :: r) := pget oeo_189 (gI_r (r := 192) hG oeo_189 (Nat.le_of_ble_eq_true rfl) (y := 6) rfl och_189_6)
theorem och_189_7 : (eG (cn 189 + 7)).2.2 = [194] := by decide +kernel
theorem ocq_189_7 {d i : Nat} {lv : List (Nat × pv)} {r : List pv} {g : pH} (hG : g_I eG g) : px_push eL d none (.getfield i) 5 7 lv (pvR 189 :: r) g = some (pvR 193 :: r) := pget oeo_189 (gI_r (r := 193) hG oeo_189 (Nat.le_of_ble_eq_true rfl) (y := 7) rfl och_189_7)
theorem oez_192 : eL[192]? = some (1, 12) := by decide +kernel
theorem oez_193 : eL[193]? = some (1, 4096) := by decide +kernel
theorem wu_jO_193 : jO.testBit (cn 193) = true := by decide +kernel
theorem ocf_run {d : Nat} {g0 g : pH} {va vb vc vn : Int} {nu pl ah wf wl la : tC} (hS : oE g0 g va vb vc vn nu pl ah wf wl la) {A : Nat → Nat} {k S : Nat} (hk : k < 12) (hS4 : S < 4096) (hA : ah k = (A k : Int)) (hA4 : A k < 4096) {P : Option pv × pH → Prop} (h1 : oc A k S = true → P (some (oI 1), g)) (h0 : oc A k S = false → P (some (oI 0), g)) {lv : List (Nat × pv)} (l0 : px_lg lv 0 = some (pvR 189)) (l1 : px_lg lv 1 = some (oI (k : Int))) (l2 : px_lg lv 2 = some (oI (S : Int))) : t_X d 58 0 lv [] g P := by
  refine t_0 ocf_0 rfl (ld_i l2) ?_
  refine t_0 ocf_1 rfl (ld_i l1) ?_
  refine t_0 ocf_2 rfl rfl ?_
  refine t_0 ocf_3 rfl rfl ?_
  refine t_0 ocf_4 rfl rfl ?_
  refine tx_ne ocf_5 (by decide) (fun c1 => ?_) (fun c1 => ?_)
  · show t_X d 58 25 lv [] g P
    refine t_0 ocf_25 rfl rfl ?_
    refine t_5 ocf_26 rfl rfl ?_
    refine h0 ?_
    unfold oc
    cases q1 : S.testBit k with
    | true => rfl
    | false =>
      exact absurd ((oc_1 hk).mpr q1) c1
  · show t_X d 58 8 lv [] g P
    refine t_0 ocf_8 rfl (ld_a l0) ?_
    refine t_0 ocf_9 rfl (ocq_189_6 (S_J hS).1) ?_
    show t_X d 58 12 lv [pvR 192] g P
    refine t_0 ocf_12 rfl (ld_i l1) ?_
    have r2 := pb_a (S_J hS).1 oez_192 (j := (k : Int).toNat) (by omega) ogu_192 (show fA g 192 = ah from S_a hS 2 (Nat.le_of_ble_eq_true rfl))
    refine t_0 ocf_13 rfl (pq_iv oez_192 rfl ⟨by omega, by omega⟩ (show fA g 192 = ah from S_a hS 2 (Nat.le_of_ble_eq_true rfl))) ?_
    show t_X d 58 14 lv [oI (ah ((k : Int).toNat))] g P
    rw [show ah (k : Int).toNat = (A k : Int) from hA]
    show t_X d 58 14 lv [oI ((A k : Int))] g P
    refine t_0 ocf_14 rfl (ld_i l2) ?_
    refine t_0 ocf_15 rfl rfl ?_
    refine t_0 ocf_16 rfl rfl ?_
    refine t_0 ocf_17 rfl rfl ?_
    refine tx_ne ocf_18 (by decide) (fun c3 => ?_) (fun c3 => ?_)
    · show t_X d 58 25 lv [] g P
      refine t_0 ocf_25 rfl rfl ?_
      refine t_5 ocf_26 rfl rfl ?_
      refine h0 ?_
      unfold oc
      cases q1 : S.testBit k with
      | true => rfl
      | false =>
        rw [beq_eq_false_iff_ne.mpr (fun z => c3 ((oc_2 hA4).mpr z))]
        rfl
    · show t_X d 58 21 lv [] g P
      refine t_0 ocf_21 rfl rfl ?_
      refine t_1 ocf_22 rfl (pb_goto (pc := 22) (by decide)) ?_
      show t_X d 58 26 lv [oI 1] g P
      refine t_5 ocf_26 rfl rfl ?_
      exact h1 (by unfold oc; rw [(oc_1 hk).mp c1, beq_iff_eq.mpr ((oc_2 hA4).mp c3)]; rfl)
set_option maxHeartbeats 1000000 in
theorem ocaL3 {d N : Nat} (hd : 2 ≤ d) (hN : N ≤ 12) {A : Nat → Nat} {g0 : pH} {va vb vc : Int} {nu pl ah wl la : tC} (hA : oAh A N ah) {P : Option pv × pH → Prop} {s : Nat} (hs : s + 1 < 2 ^ N) (hC : ∀ (g : pH) (wf : tC), oE g0 g va vb vc N nu pl ah wf wl la → (∀ T : Nat, T < 2 ^ N → wf T = b32 (oW A N (s + 1) T)) → ∀ {lv : List (Nat × pv)}, px_lg lv 0 = some (pvR 189) → px_lg lv 1 = some (oI ((2 ^ N - 1 : Nat) : Int)) → px_lg lv 2 = some (oI (s : Int)) → t_X d 60 96 lv [] g P) : ∀ (m k : Nat) (g : pH) {wf : tC}, N - k ≤ m → k ≤ N → (∀ T : Nat, T < 2 ^ N → wf T = b32 (oV A N s k T)) → oE g0 g va vb vc N nu pl ah wf wl la → ∀ {lv : List (Nat × pv)}, px_lg lv 0 = some (pvR 189) → px_lg lv 1 = some (oI ((2 ^ N - 1 : Nat) : Int)) → px_lg lv 2 = some (oI (s : Int)) → px_lg lv 3 = some (oI (k : Int)) → t_X d 60 45 lv [] g P := by
  have hp := pw_12 hN
  have hp1 : 1 ≤ 2 ^ N := Nat.one_le_two_pow
  intro m
  induction m with
  | zero =>
    intro k g wf hm hk hw hS lv l0 l1 l2 l3
    have hkN : k = N := by omega
    refine t_0 oca_45 rfl (ld_i l3) ?_
    refine t_0 oca_46 rfl (ld_a l0) ?_
    refine t_0 oca_47 rfl (pq_cv oeo_189 rfl (show cF g 189 3 = (N : Int) from S_f hS 3 (Nat.le_of_ble_eq_true rfl))) ?_
    show t_X d 60 50 lv [oI ((N : Int)), oI ((k : Int))] g P
    refine tb_ge oca_50 (by decide) ⟨by omega, by omega⟩ ⟨by omega, by omega⟩ (fun c1 => ?_) (fun c1 => absurd c1 (by omega))
    show t_X d 60 96 lv [] g P
    have hw9 : ∀ T : Nat, T < 2 ^ N → wf T = b32 (oW A N (s + 1) T) := fun T hT => by
      rw [hw T hT, hkN, oV_N]
    exact hC _ _ hS hw9 l0 l1 l2
  | succ m ih =>
    intro k g wf hm hk hw hS lv l0 l1 l2 l3
    by_cases hkN : k = N
    · refine t_0 oca_45 rfl (ld_i l3) ?_
      refine t_0 oca_46 rfl (ld_a l0) ?_
      refine t_0 oca_47 rfl (pq_cv oeo_189 rfl (show cF g 189 3 = (N : Int) from S_f hS 3 (Nat.le_of_ble_eq_true rfl))) ?_
      show t_X d 60 50 lv [oI ((N : Int)), oI ((k : Int))] g P
      refine tb_ge oca_50 (by decide) ⟨by omega, by omega⟩ ⟨by omega, by omega⟩ (fun c1 => ?_) (fun c1 => absurd c1 (by omega))
      show t_X d 60 96 lv [] g P
      have hw9 : ∀ T : Nat, T < 2 ^ N → wf T = b32 (oW A N (s + 1) T) := fun T hT => by
        rw [hw T hT, hkN, oV_N]
      exact hC _ _ hS hw9 l0 l1 l2
    have hx : s ||| 2 ^ k < 2 ^ N := ob_up (by omega) (by omega)
    refine t_0 oca_45 rfl (ld_i l3) ?_
    refine t_0 oca_46 rfl (ld_a l0) ?_
    refine t_0 oca_47 rfl (pq_cv oeo_189 rfl (show cF g 189 3 = (N : Int) from S_f hS 3 (Nat.le_of_ble_eq_true rfl))) ?_
    show t_X d 60 50 lv [oI ((N : Int)), oI ((k : Int))] g P
    refine tb_ge oca_50 (by decide) ⟨by omega, by omega⟩ ⟨by omega, by omega⟩ (fun c1 => absurd c1 (by omega)) (fun c1 => ?_)
    show t_X d 60 53 lv [] g P
    refine t_0 oca_53 rfl (ld_a l0) ?_
    refine t_0 oca_54 rfl (ocq_189_7 (S_J hS).1) ?_
    show t_X d 60 57 lv [pvR 193] g P
    refine t_0 oca_57 rfl (ld_i l2) ?_
    have r2 := pb_a (S_J hS).1 oez_193 (j := (s : Int).toNat) (by omega) ogu_193 (show fA g 193 = wf from S_a hS 3 (Nat.le_of_ble_eq_true rfl))
    refine t_0 oca_58 rfl (pq_iv oez_193 rfl ⟨by omega, by omega⟩ (show fA g 193 = wf from S_a hS 3 (Nat.le_of_ble_eq_true rfl))) ?_
    show t_X d 60 59 lv [oI (wf ((s : Int).toNat))] g P
    refine tz_eq oca_59 (by decide) ⟨by omega, by omega⟩ (fun c3 => ?_) (fun c3 => ?_)
    · show t_X d 60 96 lv [] g P
      have hw9 : ∀ T : Nat, T < 2 ^ N → wf T = b32 (oW A N (s + 1) T) := fun T hT => by
        rw [hw T hT, ← oV_N]
        exact oV_z (by rw [← oV_i (k := k) (Nat.le_refl s), ← hw s (by omega)]; exact c3)
      exact hC _ _ hS hw9 l0 l1 l2
    · show t_X d 60 62 lv [] g P
      refine t_0 oca_62 rfl (ld_a l0) ?_
      refine t_0 oca_63 rfl (ld_i l3) ?_
      refine t_0 oca_64 rfl (ld_i l2) ?_
      refine t_3 oca_65 rfl (ar := ([pvR 189, oI ((k : Int)), oI ((s : Int))], [])) (pcal_w (as := [oI ((s : Int)), oI ((k : Int))]) rfl rfl rfl oeo_189) ⟨by omega, Nat.le_of_ble_eq_true rfl, Nat.le_of_ble_eq_true rfl, rfl⟩ ?_
      refine ocf_run hS (A := A) (k := k) (S := s) (by omega) (by omega) (hA k (by omega)).1 (hA k (by omega)).2 (fun t4 => ?_) (fun t4 => ?_) rfl rfl rfl
      · show t_X d 60 68 lv [oI 1] g P
        refine tz_eq oca_68 (by decide) ⟨by omega, by omega⟩ (fun c5 => absurd c5 (by omega)) (fun c5 => ?_)
        show t_X d 60 71 lv [] g P
        refine t_0 oca_71 rfl (ld_a l0) ?_
        refine t_0 oca_72 rfl (ocq_189_7 (S_J hS).1) ?_
        show t_X d 60 75 lv [pvR 193] g P
        refine t_0 oca_75 rfl (ld_i l2) ?_
        refine t_0 oca_76 rfl rfl ?_
        refine t_0 oca_77 rfl (ld_i l3) ?_
        refine t_0 oca_78 rfl rfl ?_
        refine t_0 oca_79 rfl (pq_orx (s := s) (k := k) (by omega) (by omega)) ?_
        refine t_0 oca_80 rfl rfl ?_
        have r6 := pb_a (S_J hS).1 oez_193 (j := ((s ||| 2 ^ k : Nat) : Int).toNat) (by omega) ogu_193 (show fA g 193 = wf from S_a hS 3 (Nat.le_of_ble_eq_true rfl))
        refine t_0 oca_81 rfl (pq_iv oez_193 rfl ⟨by omega, by omega⟩ (show fA g 193 = wf from S_a hS 3 (Nat.le_of_ble_eq_true rfl))) ?_
        show t_X d 60 82 lv [oI (wf (((s ||| 2 ^ k : Nat) : Int).toNat)), oI (((s ||| 2 ^ k : Nat) : Int)), pvR 193] g P
        refine t_0 oca_82 rfl (ld_a l0) ?_
        refine t_0 oca_83 rfl (ocq_189_7 (S_J hS).1) ?_
        show t_X d 60 86 lv [pvR 193, oI (wf (((s ||| 2 ^ k : Nat) : Int).toNat)), oI (((s ||| 2 ^ k : Nat) : Int)), pvR 193] g P
        refine t_0 oca_86 rfl (ld_i l2) ?_
        have r7 := pb_a (S_J hS).1 oez_193 (j := (s : Int).toNat) (by omega) ogu_193 (show fA g 193 = wf from S_a hS 3 (Nat.le_of_ble_eq_true rfl))
        refine t_0 oca_87 rfl (pq_iv oez_193 rfl ⟨by omega, by omega⟩ (show fA g 193 = wf from S_a hS 3 (Nat.le_of_ble_eq_true rfl))) ?_
        show t_X d 60 88 lv [oI (wf ((s : Int).toNat)), oI (wf (((s ||| 2 ^ k : Nat) : Int).toNat)), oI (((s ||| 2 ^ k : Nat) : Int)), pvR 193] g P
        refine t_0 oca_88 rfl pq_add ?_
        have bb := b32_b ((wf (((s ||| 2 ^ k : Nat) : Int).toNat)) + (wf ((s : Int).toNat)))
        rw [b32_o ((wf (((s ||| 2 ^ k : Nat) : Int).toNat)) + (wf ((s : Int).toNat)))]
        show t_X d 60 89 lv [oI (b32 ((wf (((s ||| 2 ^ k : Nat) : Int).toNat)) + (wf ((s : Int).toNat)))), oI (((s ||| 2 ^ k : Nat) : Int)), pvR 193] g P
        refine ts_a (n := 3) rfl rfl (by decide) oca_89 hS oez_193 rfl wu_jO_193 ogu_193 (by decide) ⟨by omega, by omega⟩ ⟨by omega, by omega⟩ (fun g8 hS8 => ?_)
        replace hS8 : oE g0 g8 va vb vc (N : Int) nu pl ah (updI wf ((s ||| 2 ^ k : Nat) : Int).toNat (b32 ((wf (((s ||| 2 ^ k : Nat) : Int).toNat)) + (wf ((s : Int).toNat))))) wl la := hS8
        show t_X d 60 90 lv [] g8 P
        replace hS8 : oE g0 g8 va vb vc (N : Int) nu pl ah (updI wf (s ||| 2 ^ k) (b32 (wf (s ||| 2 ^ k) + wf s))) wl la := hS8
        show t_X d 60 90 lv [] g8 P
        refine t_2 oca_90 rfl (w := (px_s1 lv 3 (oI ((k : Int) + 1)), [])) (pq_inc l3 (by decide)) ?_
        replace l0 : px_lg (px_s1 lv 3 (oI ((k : Int) + 1))) 0 = some (pvR 189) := s1_ne (by decide) (fun _ => rfl) l0
        replace l1 : px_lg (px_s1 lv 3 (oI ((k : Int) + 1))) 1 = some (oI (((2 ^ N - 1 : Nat) : Int))) := s1_ne (by decide) (fun _ => rfl) l1
        replace l2 : px_lg (px_s1 lv 3 (oI ((k : Int) + 1))) 2 = some (oI ((s : Int))) := s1_ne (by decide) (fun _ => rfl) l2
        have l3 : px_lg (px_s1 lv 3 (oI ((k : Int) + 1))) 3 = some (oI ((k : Int) + 1)) := s1_eq
        generalize px_s1 lv 3 (oI ((k : Int) + 1)) = lv9 at l0 l1 l2 l3 ⊢
        show t_X d 60 93 lv9 [] g8 P
        refine t_1 oca_93 rfl (pb_goto (pc := 93) (by decide)) ?_
        show t_X d 60 45 lv9 [] g8 P
        refine ih (k + 1) _ (by omega) (by omega) (fun T hT => ?_) hS8 l0 l1 l2 l3
        rw [oV_s]
        unfold updI
        by_cases e : T = s ||| 2 ^ k
        · rw [if_pos e, if_pos ⟨t4, e⟩, hw _ hx, hw s (by omega), oV_i (Nat.le_refl s), ← e, b32_a]
        · rw [if_neg e, if_neg (fun z => e z.2), Int.add_zero]; exact hw T hT
      · show t_X d 60 68 lv [oI 0] g P
        refine tz_eq oca_68 (by decide) ⟨by omega, by omega⟩ (fun c10 => ?_) (fun c10 => absurd c10 (by omega))
        show t_X d 60 90 lv [] g P
        refine t_2 oca_90 rfl (w := (px_s1 lv 3 (oI ((k : Int) + 1)), [])) (pq_inc l3 (by decide)) ?_
        replace l0 : px_lg (px_s1 lv 3 (oI ((k : Int) + 1))) 0 = some (pvR 189) := s1_ne (by decide) (fun _ => rfl) l0
        replace l1 : px_lg (px_s1 lv 3 (oI ((k : Int) + 1))) 1 = some (oI (((2 ^ N - 1 : Nat) : Int))) := s1_ne (by decide) (fun _ => rfl) l1
        replace l2 : px_lg (px_s1 lv 3 (oI ((k : Int) + 1))) 2 = some (oI ((s : Int))) := s1_ne (by decide) (fun _ => rfl) l2
        have l3 : px_lg (px_s1 lv 3 (oI ((k : Int) + 1))) 3 = some (oI ((k : Int) + 1)) := s1_eq
        generalize px_s1 lv 3 (oI ((k : Int) + 1)) = lv11 at l0 l1 l2 l3 ⊢
        show t_X d 60 93 lv11 [] g P
        refine t_1 oca_93 rfl (pb_goto (pc := 93) (by decide)) ?_
        show t_X d 60 45 lv11 [] g P
        refine ih (k + 1) _ (by omega) (by omega) (fun T hT => ?_) hS l0 l1 l2 l3
        rw [oV_s, if_neg (fun z => by rw [t4] at z; exact absurd z.1 (by decide)), Int.add_zero]
        exact hw T hT
set_option maxHeartbeats 1000000 in
theorem ocaL2 {d N : Nat} (hd : 2 ≤ d) (hN : N ≤ 12) {A : Nat → Nat} {g0 : pH} {va vb vc : Int} {nu pl ah wl la : tC} (hA : oAh A N ah) {P : Option pv × pH → Prop} (hP : ∀ (g : pH) (wf : tC), oE g0 g va vb vc N nu pl ah wf wl la → (∀ T : Nat, T < 2 ^ N → wf T = b32 (oW A N (2 ^ N - 1) T)) → P (some (oI (wf (2 ^ N - 1))), g)) : ∀ (m s : Nat) (g : pH) {wf : tC}, 2 ^ N - 1 - s ≤ m → s ≤ 2 ^ N - 1 → (∀ T : Nat, T < 2 ^ N → wf T = b32 (oW A N s T)) → oE g0 g va vb vc N nu pl ah wf wl la → ∀ {lv : List (Nat × pv)}, px_lg lv 0 = some (pvR 189) → px_lg lv 1 = some (oI ((2 ^ N - 1 : Nat) : Int)) → px_lg lv 2 = some (oI (s : Int)) → t_X d 60 38 lv [] g P := by
  have hp := pw_12 hN
  have hp1 : 1 ≤ 2 ^ N := Nat.one_le_two_pow
  intro m
  induction m with
  | zero =>
    intro s g wf hm hs hw hS lv l0 l1 l2
    have hsN : s = 2 ^ N - 1 := by omega
    refine t_0 oca_38 rfl (ld_i l2) ?_
    refine t_0 oca_39 rfl (ld_i l1) ?_
    refine tb_ge oca_40 (by decide) ⟨by omega, by omega⟩ ⟨by omega, by omega⟩ (fun c1 => ?_) (fun c1 => absurd c1 (by omega))
    show t_X d 60 102 lv [] g P
    refine t_0 oca_102 rfl (ld_a l0) ?_
    refine t_0 oca_103 rfl (ocq_189_7 (S_J hS).1) ?_
    show t_X d 60 106 lv [pvR 193] g P
    refine t_0 oca_106 rfl (ld_i l1) ?_
    have r2 := pb_a (S_J hS).1 oez_193 (j := ((2 ^ N - 1 : Nat) : Int).toNat) (by omega) ogu_193 (show fA g 193 = wf from S_a hS 3 (Nat.le_of_ble_eq_true rfl))
    refine t_0 oca_107 rfl (pq_iv oez_193 rfl ⟨by omega, by omega⟩ (show fA g 193 = wf from S_a hS 3 (Nat.le_of_ble_eq_true rfl))) ?_
    show t_X d 60 108 lv [oI (wf (((2 ^ N - 1 : Nat) : Int).toNat))] g P
    refine t_5 oca_108 rfl rfl ?_
    exact hP _ _ hS (by rw [← hsN]; exact hw)
  | succ m ih =>
    intro s g wf hm hs hw hS lv l0 l1 l2
    by_cases hsN : s = 2 ^ N - 1
    · refine t_0 oca_38 rfl (ld_i l2) ?_
      refine t_0 oca_39 rfl (ld_i l1) ?_
      refine tb_ge oca_40 (by decide) ⟨by omega, by omega⟩ ⟨by omega, by omega⟩ (fun c1 => ?_) (fun c1 => absurd c1 (by omega))
      show t_X d 60 102 lv [] g P
      refine t_0 oca_102 rfl (ld_a l0) ?_
      refine t_0 oca_103 rfl (ocq_189_7 (S_J hS).1) ?_
      show t_X d 60 106 lv [pvR 193] g P
      refine t_0 oca_106 rfl (ld_i l1) ?_
      have r2 := pb_a (S_J hS).1 oez_193 (j := ((2 ^ N - 1 : Nat) : Int).toNat) (by omega) ogu_193 (show fA g 193 = wf from S_a hS 3 (Nat.le_of_ble_eq_true rfl))
      refine t_0 oca_107 rfl (pq_iv oez_193 rfl ⟨by omega, by omega⟩ (show fA g 193 = wf from S_a hS 3 (Nat.le_of_ble_eq_true rfl))) ?_
      show t_X d 60 108 lv [oI (wf (((2 ^ N - 1 : Nat) : Int).toNat))] g P
      refine t_5 oca_108 rfl rfl ?_
      exact hP _ _ hS (by rw [← hsN]; exact hw)
    refine t_0 oca_38 rfl (ld_i l2) ?_
    refine t_0 oca_39 rfl (ld_i l1) ?_
    refine tb_ge oca_40 (by decide) ⟨by omega, by omega⟩ ⟨by omega, by omega⟩ (fun c1 => absurd c1 (by omega)) (fun c1 => ?_)
    show t_X d 60 43 lv [] g P
    refine t_0 oca_43 rfl rfl ?_
    refine t_2 oca_44 rfl (w := (px_s1 lv 3 (oI 0), [])) rfl ?_
    replace l0 : px_lg (px_s1 lv 3 (oI 0)) 0 = some (pvR 189) := s1_ne (by decide) (fun _ => rfl) l0
    replace l1 : px_lg (px_s1 lv 3 (oI 0)) 1 = some (oI (((2 ^ N - 1 : Nat) : Int))) := s1_ne (by decide) (fun _ => rfl) l1
    replace l2 : px_lg (px_s1 lv 3 (oI 0)) 2 = some (oI ((s : Int))) := s1_ne (by decide) (fun _ => rfl) l2
    have l3 : px_lg (px_s1 lv 3 (oI 0)) 3 = some (oI 0) := s1_eq
    generalize px_s1 lv 3 (oI 0) = lv2 at l0 l1 l2 l3 ⊢
    show t_X d 60 45 lv2 [] g P
    refine ocaL3 hd hN hA (by omega) (fun g9 wf9 hS9 hw9 {lv9} l0 l1 l2 => ?_) N 0 _ (by omega) (by omega) (fun T hT => by rw [oV_0]; exact hw T hT) hS l0 l1 l2 l3
    show t_X d 60 96 lv9 [] g9 P
    refine t_2 oca_96 rfl (w := (px_s1 lv9 2 (oI ((s : Int) + 1)), [])) (pq_inc l2 (by decide)) ?_
    replace l0 : px_lg (px_s1 lv9 2 (oI ((s : Int) + 1))) 0 = some (pvR 189) := s1_ne (by decide) (fun _ => rfl) l0
    replace l1 : px_lg (px_s1 lv9 2 (oI ((s : Int) + 1))) 1 = some (oI (((2 ^ N - 1 : Nat) : Int))) := s1_ne (by decide) (fun _ => rfl) l1
    have l2 : px_lg (px_s1 lv9 2 (oI ((s : Int) + 1))) 2 = some (oI ((s : Int) + 1)) := s1_eq
    generalize px_s1 lv9 2 (oI ((s : Int) + 1)) = lv3 at l0 l1 l2 ⊢
    show t_X d 60 99 lv3 [] g9 P
    refine t_1 oca_99 rfl (pb_goto (pc := 99) (by decide)) ?_
    show t_X d 60 38 lv3 [] g9 P
    exact ih (s + 1) _ (by omega) (by omega) hw9 hS9 l0 l1 l2
set_option maxHeartbeats 1000000 in
theorem ocaL1 {d N : Nat} (hN : N ≤ 12) {g0 : pH} {va vb vc : Int} {nu pl ah wl la : tC} {P : Option pv × pH → Prop} (hC : ∀ (g : pH) (wf : tC), oE g0 g va vb vc N nu pl ah wf wl la → (∀ T : Nat, 1 ≤ T → T < 2 ^ N → wf T = 0) → ∀ {lv : List (Nat × pv)}, px_lg lv 0 = some (pvR 189) → px_lg lv 1 = some (oI ((2 ^ N - 1 : Nat) : Int)) → t_X d 60 29 lv [] g P) : ∀ (m s : Nat) (g : pH) {wf : tC}, 2 ^ N - s ≤ m → s ≤ 2 ^ N → (∀ T : Nat, 1 ≤ T → T < s → wf T = 0) → oE g0 g va vb vc N nu pl ah wf wl la → ∀ {lv : List (Nat × pv)}, px_lg lv 0 = some (pvR 189) → px_lg lv 1 = some (oI ((2 ^ N - 1 : Nat) : Int)) → px_lg lv 2 = some (oI (s : Int)) → t_X d 60 11 lv [] g P := by
  have hp := pw_12 hN
  have hp1 : 1 ≤ 2 ^ N := Nat.one_le_two_pow
  intro m
  induction m with
  | zero =>
    intro s g wf hm hs hz hS lv l0 l1 l2
    refine t_0 oca_11 rfl (ld_i l2) ?_
    refine t_0 oca_12 rfl (ld_i l1) ?_
    refine tb_gt oca_13 (by decide) ⟨by omega, by omega⟩ ⟨by omega, by omega⟩ (fun c1 => ?_) (fun c1 => absurd c1 (by omega))
    show t_X d 60 29 lv [] g P
    have hz9 : ∀ T : Nat, 1 ≤ T → T < 2 ^ N → wf T = 0 := fun T h1 h2 => hz T h1 (by omega)
    exact hC _ _ hS hz9 l0 l1
  | succ m ih =>
    intro s g wf hm hs hz hS lv l0 l1 l2
    by_cases hsN : s = 2 ^ N
    · refine t_0 oca_11 rfl (ld_i l2) ?_
      refine t_0 oca_12 rfl (ld_i l1) ?_
      refine tb_gt oca_13 (by decide) ⟨by omega, by omega⟩ ⟨by omega, by omega⟩ (fun c1 => ?_) (fun c1 => absurd c1 (by omega))
      show t_X d 60 29 lv [] g P
      have hz9 : ∀ T : Nat, 1 ≤ T → T < 2 ^ N → wf T = 0 := fun T h1 h2 => hz T h1 (by omega)
      exact hC _ _ hS hz9 l0 l1
    refine t_0 oca_11 rfl (ld_i l2) ?_
    refine t_0 oca_12 rfl (ld_i l1) ?_
    refine tb_gt oca_13 (by decide) ⟨by omega, by omega⟩ ⟨by omega, by omega⟩ (fun c1 => absurd c1 (by omega)) (fun c1 => ?_)
    show t_X d 60 16 lv [] g P
    refine t_0 oca_16 rfl (ld_a l0) ?_
    refine t_0 oca_17 rfl (ocq_189_7 (S_J hS).1) ?_
    show t_X d 60 20 lv [pvR 193] g P
    refine t_0 oca_20 rfl (ld_i l2) ?_
    refine t_0 oca_21 rfl rfl ?_
    refine ts_a (n := 3) rfl rfl (by decide) oca_22 hS oez_193 rfl wu_jO_193 ogu_193 (by decide) ⟨by omega, by omega⟩ ⟨by omega, by omega⟩ (fun g2 hS2 => ?_)
    replace hS2 : oE g0 g2 va vb vc (N : Int) nu pl ah (updI wf (s : Int).toNat 0) wl la := hS2
    show t_X d 60 23 lv [] g2 P
    refine t_2 oca_23 rfl (w := (px_s1 lv 2 (oI ((s : Int) + 1)), [])) (pq_inc l2 (by decide)) ?_
    replace l0 : px_lg (px_s1 lv 2 (oI ((s : Int) + 1))) 0 = some (pvR 189) := s1_ne (by decide) (fun _ => rfl) l0
    replace l1 : px_lg (px_s1 lv 2 (oI ((s : Int) + 1))) 1 = some (oI (((2 ^ N - 1 : Nat) : Int))) := s1_ne (by decide) (fun _ => rfl) l1
    have l2 : px_lg (px_s1 lv 2 (oI ((s : Int) + 1))) 2 = some (oI ((s : Int) + 1)) := s1_eq
    generalize px_s1 lv 2 (oI ((s : Int) + 1)) = lv3 at l0 l1 l2 ⊢
    show t_X d 60 26 lv3 [] g2 P
    refine t_1 oca_26 rfl (pb_goto (pc := 26) (by decide)) ?_
    show t_X d 60 11 lv3 [] g2 P
    refine ih (s + 1) _ (by omega) (by omega) (fun T h1 h2 => ?_) hS2 l0 l1 l2
    unfold updI
    by_cases e : T = s
    · rw [if_pos (by rw [e]; rfl)]
    · rw [if_neg (fun z => e (by rw [z]; rfl))]; exact hz T h1 (by omega)
set_option maxHeartbeats 1000000 in
theorem oca_run {d N : Nat} (hd : 2 ≤ d) (hN : N ≤ 12) {A : Nat → Nat} {g0 : pH} {va vb vc : Int} {nu pl ah wl la : tC} (hA : oAh A N ah) {P : Option pv × pH → Prop} {g : pH} {wf : tC} (hS : oE g0 g va vb vc N nu pl ah wf wl la) (hP : ∀ (g : pH) (wf : tC), oE g0 g va vb vc N nu pl ah wf wl la → (∀ T : Nat, T < 2 ^ N → wf T = b32 (oW A N (2 ^ N - 1) T)) → P (some (oI (wf (2 ^ N - 1))), g)) {lv : List (Nat × pv)} (l0 : px_lg lv 0 = some (pvR 189)) : t_X d 60 0 lv [] g P := by
  have hp := pw_12 hN
  have hp1 : 1 ≤ 2 ^ N := Nat.one_le_two_pow
  refine t_0 oca_0 rfl rfl ?_
  refine t_0 oca_1 rfl (ld_a l0) ?_
  refine t_0 oca_2 rfl (pq_cv oeo_189 rfl (show cF g 189 3 = (N : Int) from S_f hS 3 (Nat.le_of_ble_eq_true rfl))) ?_
  show t_X d 60 5 lv [oI ((N : Int)), oI 1] g P
  refine t_0 oca_5 rfl rfl ?_
  refine t_0 oca_6 rfl rfl ?_
  refine t_0 oca_7 rfl rfl ?_
  show t_X d 60 8 lv [.inl (((Int32.ofInt (1)) <<< ((Int32.ofInt ((N : Int))) &&& 31)) - (Int32.ofInt (1)))] g P
  rw [allC hN]
  show t_X d 60 8 lv [oI (((2 ^ N - 1 : Nat) : Int))] g P
  refine t_2 oca_8 rfl (w := (px_s1 lv 1 (oI (((2 ^ N - 1 : Nat) : Int))), [])) rfl ?_
  replace l0 : px_lg (px_s1 lv 1 (oI (((2 ^ N - 1 : Nat) : Int)))) 0 = some (pvR 189) := s1_ne (by decide) (fun _ => rfl) l0
  have l1 : px_lg (px_s1 lv 1 (oI (((2 ^ N - 1 : Nat) : Int)))) 1 = some (oI (((2 ^ N - 1 : Nat) : Int))) := s1_eq
  generalize px_s1 lv 1 (oI (((2 ^ N - 1 : Nat) : Int))) = lv1 at l0 l1 ⊢
  show t_X d 60 9 lv1 [] g P
  refine t_0 oca_9 rfl rfl ?_
  refine t_2 oca_10 rfl (w := (px_s1 lv1 2 (oI 1), [])) rfl ?_
  replace l0 : px_lg (px_s1 lv1 2 (oI 1)) 0 = some (pvR 189) := s1_ne (by decide) (fun _ => rfl) l0
  replace l1 : px_lg (px_s1 lv1 2 (oI 1)) 1 = some (oI (((2 ^ N - 1 : Nat) : Int))) := s1_ne (by decide) (fun _ => rfl) l1
  have l2 : px_lg (px_s1 lv1 2 (oI 1)) 2 = some (oI 1) := s1_eq
  generalize px_s1 lv1 2 (oI 1) = lv2 at l0 l1 l2 ⊢
  show t_X d 60 11 lv2 [] g P
  refine ocaL1 hN (fun g9 wf9 hS9 hz9 {lv9} l0 l1 => ?_) (2 ^ N) 1 _ (by omega) (by omega) (fun T h1 h2 => absurd h1 (by omega)) hS l0 l1 l2
  show t_X d 60 29 lv9 [] g9 P
  refine t_0 oca_29 rfl (ld_a l0) ?_
  refine t_0 oca_30 rfl (ocq_189_7 (S_J hS9).1) ?_
  show t_X d 60 33 lv9 [pvR 193] g9 P
  refine t_0 oca_33 rfl rfl ?_
  refine t_0 oca_34 rfl rfl ?_
  refine ts_a (n := 3) rfl rfl (by decide) oca_35 hS9 oez_193 rfl wu_jO_193 ogu_193 (by decide) ⟨by omega, by omega⟩ ⟨by omega, by omega⟩ (fun g3 hS3 => ?_)
  replace hS3 : oE g0 g3 va vb vc (N : Int) nu pl ah (updI wf9 0 1) wl la := hS3
  show t_X d 60 36 lv9 [] g3 P
  refine t_0 oca_36 rfl rfl ?_
  refine t_2 oca_37 rfl (w := (px_s1 lv9 2 (oI 0), [])) rfl ?_
  replace l0 : px_lg (px_s1 lv9 2 (oI 0)) 0 = some (pvR 189) := s1_ne (by decide) (fun _ => rfl) l0
  replace l1 : px_lg (px_s1 lv9 2 (oI 0)) 1 = some (oI (((2 ^ N - 1 : Nat) : Int))) := s1_ne (by decide) (fun _ => rfl) l1
  have l2 : px_lg (px_s1 lv9 2 (oI 0)) 2 = some (oI 0) := s1_eq
  generalize px_s1 lv9 2 (oI 0) = lv4 at l0 l1 l2 ⊢
  show t_X d 60 38 lv4 [] g3 P
  refine ocaL2 hd hN hA hP (2 ^ N - 1) 0 _ (by omega) (by omega) (fun T hT => ?_) hS3 l0 l1 l2
  unfold updI
  show _ = b32 (if T = 0 then 1 else 0)
  by_cases e : T = 0
  · rw [if_pos e, if_pos e, b32_i (by decide) (by decide)]
  · rw [if_neg e, if_neg e, b32_i (by decide) (by decide)]; exact hz9 T (by omega) hT
