/-! the reckoner with bounds: operations -/
def eo_min (a b : Int) : Int := match ea_le a b with
  | true => a
  | false => b
def eo_max (a b : Int) : Int := match ea_le a b with
  | true => b
  | false => a
theorem eo_min_l (a b : Int) : eo_min a b ≤ a := by
  unfold eo_min
  split
  · exact Int.le_refl _
  · next h => have := ea_nle h; omega
theorem eo_min_r (a b : Int) : eo_min a b ≤ b := by
  unfold eo_min
  split
  · next h => exact ea_le_iff.mp h
  · exact Int.le_refl _
theorem eo_max_l (a b : Int) : a ≤ eo_max a b := by
  unfold eo_max
  split
  · next h => exact ea_le_iff.mp h
  · exact Int.le_refl _
theorem eo_max_r (a b : Int) : b ≤ eo_max a b := by
  unfold eo_max
  split
  · exact Int.le_refl _
  · next h => have := ea_nle h; omega
def eo_abs (a : Int) : Int := (a.natAbs : Int)
def eo_mul (a0 a1 b0 b1 : Int) : Int × Int := (eo_min (ea_pl a0 b0 b1) (ea_pl a1 b0 b1), eo_max (ea_pl a0 b1 b0) (ea_pl a1 b1 b0))
theorem eo_mul_ok {a0 a1 b0 b1 x y : Int} (h1 : a0 ≤ x) (h2 : x ≤ a1) (h3 : b0 ≤ y) (h4 : y ≤ b1) : (eo_mul a0 a1 b0 b1).1 ≤ x * y ∧ x * y ≤ (eo_mul a0 a1 b0 b1).2 := by
  have l0 := ea_pl_lo (k := a0) h3 h4
  have l1 := ea_pl_lo (k := a1) h3 h4
  have u0 := ea_pl_hi (k := a0) h3 h4
  have u1 := ea_pl_hi (k := a1) h3 h4
  have m1 := eo_min_l (ea_pl a0 b0 b1) (ea_pl a1 b0 b1)
  have m2 := eo_min_r (ea_pl a0 b0 b1) (ea_pl a1 b0 b1)
  have m3 := eo_max_l (ea_pl a0 b1 b0) (ea_pl a1 b1 b0)
  have m4 := eo_max_r (ea_pl a0 b1 b0) (ea_pl a1 b1 b0)
  show eo_min _ _ ≤ _ ∧ _ ≤ eo_max _ _
  rcases Int.le_total 0 y with hy | hy
  · have g1 := Int.mul_le_mul_of_nonneg_right h1 hy
    have g2 := Int.mul_le_mul_of_nonneg_right h2 hy
    omega
  · have g1 := Int.mul_le_mul_of_nonpos_right h1 hy
    have g2 := Int.mul_le_mul_of_nonpos_right h2 hy
    omega
def eo_div (a0 a1 b0 b1 : Int) : Int × Int := if ea_le 0 a0 && ea_le 1 b0 then (0, a1 / b0) else ea_f (eo_max (eo_abs a0) (eo_abs a1)) (fun m => (-m, m))
theorem eo_div_ok {a0 a1 b0 b1 x y : Int} (h1 : a0 ≤ x) (h2 : x ≤ a1) (h3 : b0 ≤ y) (h4 : y ≤ b1) : (eo_div a0 a1 b0 b1).1 ≤ x.tdiv y ∧ x.tdiv y ≤ (eo_div a0 a1 b0 b1).2 := by
  unfold eo_div
  split
  · next h =>
    rw [Bool.and_eq_true, ea_le_iff, ea_le_iff] at h
    have hx : 0 ≤ x := by omega
    rw [Int.tdiv_eq_ediv_of_nonneg hx]
    have hq : 0 ≤ x / y := Int.ediv_nonneg hx (by omega)
    refine ⟨hq, ?_⟩
    show x / y ≤ a1 / b0
    rw [Int.le_ediv_iff_mul_le (by omega)]
    have g1 : x / y * b0 ≤ x / y * y := Int.mul_le_mul_of_nonneg_left h3 hq
    have g2 : x / y * y ≤ x := Int.ediv_mul_le x (by omega)
    omega
  · rw [ea_f_eq]
    have g1 : (x.tdiv y).natAbs ≤ x.natAbs := by rw [Int.natAbs_tdiv]; exact Nat.div_le_self _ _
    have m3 := eo_max_l (eo_abs a0) (eo_abs a1)
    have m4 := eo_max_r (eo_abs a0) (eo_abs a1)
    generalize eo_max (eo_abs a0) (eo_abs a1) = M at m3 m4 ⊢
    unfold eo_abs at m3 m4
    show -M ≤ _ ∧ _ ≤ M
    omega
def eo_rem (a0 a1 b0 b1 : Int) : Int × Int := ea_f (eo_max (eo_abs b0) (eo_abs b1) - 1) (fun m => if ea_le 0 a0 then (0, eo_min m a1) else (-m, m))
theorem eo_rem_ok {a0 a1 b0 b1 x y : Int} (h1 : a0 ≤ x) (h2 : x ≤ a1) (h3 : b0 ≤ y) (h4 : y ≤ b1) (hy : y ≠ 0) : (eo_rem a0 a1 b0 b1).1 ≤ x.tmod y ∧ x.tmod y ≤ (eo_rem a0 a1 b0 b1).2 := by
  unfold eo_rem
  rw [ea_f_eq]
  have g1 : (x.tmod y).natAbs = x.natAbs % y.natAbs := Int.natAbs_tmod x y
  have g2 : x.natAbs % y.natAbs < y.natAbs := Nat.mod_lt _ (by omega)
  have g3 : x.natAbs % y.natAbs ≤ x.natAbs := Nat.mod_le _ _
  have m3 := eo_max_l (eo_abs b0) (eo_abs b1)
  have m4 := eo_max_r (eo_abs b0) (eo_abs b1)
  generalize eo_max (eo_abs b0) (eo_abs b1) = M at m3 m4 ⊢
  unfold eo_abs at m3 m4
  split
  · next h =>
    have h := ea_le_iff.mp h
    have g4 : 0 ≤ x.tmod y := Int.tmod_nonneg _ (by omega)
    refine ⟨g4, ?_⟩
    show _ ≤ eo_min (M - 1) a1
    unfold eo_min
    split <;> omega
  · show -(M - 1) ≤ _ ∧ _ ≤ M - 1
    omega
theorem eo_n32 (x : Int32) : (x.toInt = (x.toBitVec.toNat : Int) ∧ x.toBitVec.toNat < 2147483648) ∨ (x.toInt = (x.toBitVec.toNat : Int) - 4294967296 ∧ 2147483648 ≤ x.toBitVec.toNat ∧ x.toBitVec.toNat < 4294967296) := by
  have h := x.toBitVec.isLt
  rw [← Int32.toInt_toBitVec, BitVec.toInt_eq_toNat_cond]
  split <;> omega
theorem eo_p32 {x : Int32} {n : Nat} (h : x.toBitVec.toNat = n) (hn : n < 2147483648) : x.toInt = n := by
  rcases eo_n32 x with h1 | h1 <;> omega
theorem eo_and_l {x y : Int32} (hx : 0 ≤ x.toInt) : 0 ≤ (x &&& y).toInt ∧ (x &&& y).toInt ≤ x.toInt := by
  have e : (x &&& y).toBitVec.toNat = x.toBitVec.toNat &&& y.toBitVec.toNat := BitVec.toNat_and x.toBitVec y.toBitVec
  have h1 : x.toBitVec.toNat &&& y.toBitVec.toNat ≤ x.toBitVec.toNat := Nat.and_le_left
  rcases eo_n32 x with h2 | h2
  · have h3 := eo_p32 e (by omega)
    omega
  · omega
theorem eo_and_r {x y : Int32} (hy : 0 ≤ y.toInt) : 0 ≤ (x &&& y).toInt ∧ (x &&& y).toInt ≤ y.toInt := by
  have e : (x &&& y).toBitVec.toNat = x.toBitVec.toNat &&& y.toBitVec.toNat := BitVec.toNat_and x.toBitVec y.toBitVec
  have h1 : x.toBitVec.toNat &&& y.toBitVec.toNat ≤ y.toBitVec.toNat := Nat.and_le_right
  rcases eo_n32 y with h2 | h2
  · have h3 := eo_p32 e (by omega)
    omega
  · omega
def eo_and (lo hi a0 a1 b0 b1 : Int) : Int × Int := if ea_le 0 a0 then (if ea_le 0 b0 then (0, eo_min a1 b1) else (0, a1)) else if ea_le 0 b0 then (0, b1) else (lo, hi)
theorem eo_and_ok {a0 a1 b0 b1 : Int} {x y : Int32} (h1 : a0 ≤ x.toInt) (h2 : x.toInt ≤ a1) (h3 : b0 ≤ y.toInt) (h4 : y.toInt ≤ b1) : (eo_and (-2147483648) 2147483647 a0 a1 b0 b1).1 ≤ (x &&& y).toInt ∧ (x &&& y).toInt ≤ (eo_and (-2147483648) 2147483647 a0 a1 b0 b1).2 := by
  unfold eo_and
  split
  · next h =>
    have h := ea_le_iff.mp h
    have g := eo_and_l (x := x) (y := y) (by omega)
    split
    · next hh =>
      have hh := ea_le_iff.mp hh
      have g2 := eo_and_r (x := x) (y := y) (by omega)
      refine ⟨g.1, ?_⟩
      show _ ≤ eo_min a1 b1
      unfold eo_min
      split <;> omega
    · exact ⟨g.1, by show _ ≤ a1; omega⟩
  · split
    · next hh =>
      have hh := ea_le_iff.mp hh
      have g2 := eo_and_r (x := x) (y := y) (by omega)
      exact ⟨g2.1, by show _ ≤ b1; omega⟩
    · exact ⟨Int32.le_toInt _, by have := Int32.toInt_lt (x &&& y); show _ ≤ (2147483647 : Int); omega⟩
def eo_bl (a : Int) : Nat := a.toNat.log2 + 1
def eo_or (lo hi a0 a1 b0 b1 : Int) : Int × Int := if ea_le 0 a0 && ea_le 0 b0 then (0, ((2 ^ (max (eo_bl a1) (eo_bl b1)) - 1 : Nat) : Int)) else (lo, hi)
theorem eo_lt2 {x a : Int} {k : Nat} (h0 : 0 ≤ x) (h1 : x ≤ a) (hk : eo_bl a ≤ k) : x.toNat < 2 ^ k := by
  have h2 : a.toNat < 2 ^ (a.toNat.log2 + 1) := Nat.lt_log2_self
  have h3 : 2 ^ (a.toNat.log2 + 1) ≤ 2 ^ k := Nat.pow_le_pow_right (by decide) hk
  omega
theorem eo_or_ok {a0 a1 b0 b1 : Int} {x y : Int32} (h1 : a0 ≤ x.toInt) (h2 : x.toInt ≤ a1) (h3 : b0 ≤ y.toInt) (h4 : y.toInt ≤ b1) : (eo_or (-2147483648) 2147483647 a0 a1 b0 b1).1 ≤ (x ||| y).toInt ∧ (x ||| y).toInt ≤ (eo_or (-2147483648) 2147483647 a0 a1 b0 b1).2 := by
  have u := Int32.toInt_lt (x ||| y)
  unfold eo_or
  split
  · next h =>
    rw [Bool.and_eq_true, ea_le_iff, ea_le_iff] at h
    have e : (x ||| y).toBitVec.toNat = x.toBitVec.toNat ||| y.toBitVec.toNat := BitVec.toNat_or x.toBitVec y.toBitVec
    generalize hk : max (eo_bl a1) (eo_bl b1) = k
    have g1 := eo_lt2 (k := k) (by omega) h2 (by omega)
    have g2 := eo_lt2 (k := k) (by omega) h4 (by omega)
    have n1 := eo_n32 x
    have n2 := eo_n32 y
    have g3 : x.toBitVec.toNat ||| y.toBitVec.toNat < 2 ^ k := Nat.or_lt_two_pow (by omega) (by omega)
    have g4 : x.toBitVec.toNat ||| y.toBitVec.toNat < 2 ^ 31 := Nat.or_lt_two_pow (by omega) (by omega)
    have g5 := eo_p32 e (by omega)
    show 0 ≤ _ ∧ _ ≤ ((2 ^ k - 1 : Nat) : Int)
    omega
  · exact ⟨Int32.le_toInt _, by show _ ≤ (2147483647 : Int); omega⟩
theorem eo_xor_ok {a0 a1 b0 b1 : Int} {x y : Int32} (h1 : a0 ≤ x.toInt) (h2 : x.toInt ≤ a1) (h3 : b0 ≤ y.toInt) (h4 : y.toInt ≤ b1) : (eo_or (-2147483648) 2147483647 a0 a1 b0 b1).1 ≤ (x ^^^ y).toInt ∧ (x ^^^ y).toInt ≤ (eo_or (-2147483648) 2147483647 a0 a1 b0 b1).2 := by
  have u := Int32.toInt_lt (x ^^^ y)
  unfold eo_or
  split
  · next h =>
    rw [Bool.and_eq_true, ea_le_iff, ea_le_iff] at h
    have e : (x ^^^ y).toBitVec.toNat = x.toBitVec.toNat ^^^ y.toBitVec.toNat := BitVec.toNat_xor x.toBitVec y.toBitVec
    generalize hk : max (eo_bl a1) (eo_bl b1) = k
    have g1 := eo_lt2 (k := k) (by omega) h2 (by omega)
    have g2 := eo_lt2 (k := k) (by omega) h4 (by omega)
    have n1 := eo_n32 x
    have n2 := eo_n32 y
    have g3 : x.toBitVec.toNat ^^^ y.toBitVec.toNat < 2 ^ k := Nat.xor_lt_two_pow (by omega) (by omega)
    have g4 : x.toBitVec.toNat ^^^ y.toBitVec.toNat < 2 ^ 31 := Nat.xor_lt_two_pow (by omega) (by omega)
    have g5 := eo_p32 e (by omega)
    show 0 ≤ _ ∧ _ ≤ ((2 ^ k - 1 : Nat) : Int)
    omega
  · exact ⟨Int32.le_toInt _, by show _ ≤ (2147483647 : Int); omega⟩
theorem eo_smod : ∀ k, k < 32 → ((Int32.ofNat k &&& 31).toBitVec.smod 32).toNat = k := by decide +kernel
theorem eo_ofNat {y : Int32} (h : 0 ≤ y.toInt) : y = Int32.ofNat y.toInt.toNat := by
  have h1 := Int32.toInt_lt y
  refine Int32.toInt_inj.mp ?_
  rw [Int32.toInt_ofNat_of_lt (by omega)]
  omega
def eo_shl (lo hi a0 a1 b0 b1 : Int) : Int × Int := if ea_le 0 a0 && ea_le 0 b0 && ea_le b1 31 then (a0, a1 * ((2 ^ b1.toNat : Nat) : Int)) else (lo, hi)
theorem eo_shl_ok {a0 a1 b0 b1 : Int} {x y : Int32} (h1 : a0 ≤ x.toInt) (h2 : x.toInt ≤ a1) (h3 : b0 ≤ y.toInt) (h4 : y.toInt ≤ b1) (hr : (eo_shl (-2147483648) 2147483647 a0 a1 b0 b1).2 ≤ 2147483647) : (eo_shl (-2147483648) 2147483647 a0 a1 b0 b1).1 ≤ (x <<< (y &&& 31)).toInt ∧ (x <<< (y &&& 31)).toInt ≤ (eo_shl (-2147483648) 2147483647 a0 a1 b0 b1).2 := by
  have u := Int32.toInt_lt (x <<< (y &&& 31))
  unfold eo_shl at hr ⊢
  split
  · next h =>
    rw [if_pos h] at hr
    rw [Bool.and_eq_true, Bool.and_eq_true, ea_le_iff, ea_le_iff, ea_le_iff] at h
    have hr : a1 * ((2 ^ b1.toNat : Nat) : Int) ≤ 2147483647 := hr
    have hk := eo_smod y.toInt.toNat (by omega)
    rw [← eo_ofNat (by omega)] at hk
    have p1 : (2 : Nat) ^ y.toInt.toNat ≤ 2 ^ b1.toNat := Nat.pow_le_pow_right (by decide) (by omega)
    have p2 : 1 ≤ (2 : Nat) ^ y.toInt.toNat := Nat.one_le_two_pow
    have g1 : x.toInt * ((2 ^ y.toInt.toNat : Nat) : Int) ≤ a1 * ((2 ^ b1.toNat : Nat) : Int) := Int.mul_le_mul h2 (by omega) (by omega) (by omega)
    have g2 : x.toInt * 1 ≤ x.toInt * ((2 ^ y.toInt.toNat : Nat) : Int) := Int.mul_le_mul_of_nonneg_left (by omega) (by omega)
    have e : (2 : Int) ^ y.toInt.toNat = ((2 ^ y.toInt.toNat : Nat) : Int) := by rw [Int.natCast_pow]; rfl
    have g3 := Jvm.Kit.i32_shl x (y &&& 31) hk (by rw [e]; omega) (by rw [e]; omega)
    rw [g3, e]
    exact ⟨by show a0 ≤ _; omega, g1⟩
  · exact ⟨Int32.le_toInt _, by show _ ≤ (2147483647 : Int); omega⟩
theorem eo_pow1 (k : Nat) : (1 : Int) ≤ 2 ^ k := by
  have h : 1 ≤ (2 : Nat) ^ k := Nat.one_le_two_pow
  have e : (2 : Int) ^ k = ((2 ^ k : Nat) : Int) := by rw [Int.natCast_pow]; rfl
  rw [e]
  omega
theorem eo_dpow (x : Int) (k : Nat) : eo_min x 0 ≤ x / 2 ^ k ∧ x / 2 ^ k ≤ eo_max x 0 := by
  have hp := eo_pow1 k
  have m1 := eo_min_l x 0
  have m2 := eo_min_r x 0
  have m3 := eo_max_l x 0
  have m4 := eo_max_r x 0
  rcases Int.le_total 0 x with hx | hx
  · have h1 : 0 ≤ x / 2 ^ k := Int.ediv_nonneg hx (by omega)
    have h2 : x / 2 ^ k ≤ x := Int.ediv_le_self _ hx
    omega
  · have h1 : x ≤ x / 2 ^ k := by
      rw [Int.le_ediv_iff_mul_le (by omega)]
      have := Int.mul_le_mul_of_nonpos_left hx hp
      omega
    have h2 : x / 2 ^ k ≤ 0 := by
      have : x / 2 ^ k < 1 := by
        rw [Int.ediv_lt_iff_lt_mul (by omega)]
        omega
      omega
    omega
theorem eo_min_mono {a b : Int} (h : a ≤ b) : eo_min a 0 ≤ eo_min b 0 := by
  have m1 := eo_min_l a 0
  have m2 := eo_min_r a 0
  generalize eo_min a 0 = c at m1 m2 ⊢
  unfold eo_min
  split <;> omega
theorem eo_max_mono {a b : Int} (h : a ≤ b) : eo_max a 0 ≤ eo_max b 0 := by
  have m3 := eo_max_l b 0
  have m4 := eo_max_r b 0
  generalize eo_max b 0 = c at m3 m4 ⊢
  unfold eo_max
  split <;> omega
theorem eo_shr_ok {a0 a1 : Int} {x y : Int32} (h1 : a0 ≤ x.toInt) (h2 : x.toInt ≤ a1) : eo_min a0 0 ≤ (x >>> (y &&& 31)).toInt ∧ (x >>> (y &&& 31)).toInt ≤ eo_max a1 0 := by
  rw [Jvm.Kit.i32_shr x (y &&& 31) rfl]
  have g := eo_dpow x.toInt ((y &&& 31).toBitVec.smod 32).toNat
  have g1 := eo_min_mono h1
  have g2 := eo_max_mono h2
  omega
def eo_ushr (lo hi a0 a1 : Int) : Int × Int := if ea_le 0 a0 then (0, a1) else (lo, hi)
theorem eo_ushr_ok {a0 a1 : Int} {x y : Int32} (h1 : a0 ≤ x.toInt) (h2 : x.toInt ≤ a1) : (eo_ushr (-2147483648) 2147483647 a0 a1).1 ≤ ((x.toUInt32 >>> (y.toUInt32 &&& Int32.toUInt32 31)).toInt32).toInt ∧ ((x.toUInt32 >>> (y.toUInt32 &&& Int32.toUInt32 31)).toInt32).toInt ≤ (eo_ushr (-2147483648) 2147483647 a0 a1).2 := by
  have u := Int32.toInt_lt ((x.toUInt32 >>> (y.toUInt32 &&& Int32.toUInt32 31)).toInt32)
  unfold eo_ushr
  split
  · next h =>
    have h := ea_le_iff.mp h
    have hk : (y.toUInt32 &&& Int32.toUInt32 31).toNat ≤ 31 := by
      rw [UInt32.toNat_and]
      exact Nat.and_le_right
    rw [Jvm.Kit.i32_iushr (Jvm.Kit.i32_nonneg.mpr (by omega)) rfl (by omega)]
    have hp := eo_pow1 (y.toUInt32 &&& Int32.toUInt32 31).toNat
    have h3 : 0 ≤ x.toInt / 2 ^ (y.toUInt32 &&& Int32.toUInt32 31).toNat := Int.ediv_nonneg (by omega) (by omega)
    have h4 : x.toInt / 2 ^ (y.toUInt32 &&& Int32.toUInt32 31).toNat ≤ x.toInt := Int.ediv_le_self _ (by omega)
    exact ⟨h3, by show _ ≤ a1; omega⟩
  · exact ⟨Int32.le_toInt _, by show _ ≤ (2147483647 : Int); omega⟩
/-- what an operation over ints may answer: 0 times, 1 divided, 2 rest, 3 and, 4 or, 5 xor, 6 to the left, 7 to the right, 8 to the right without sign -/
def eo_i (op : Nat) (a0 a1 b0 b1 : Int) : Int × Int := match op with
  | 0 => eo_mul a0 a1 b0 b1
  | 1 => eo_div a0 a1 b0 b1
  | 2 => eo_rem a0 a1 b0 b1
  | 3 => eo_and (-2147483648) 2147483647 a0 a1 b0 b1
  | 4 => eo_or (-2147483648) 2147483647 a0 a1 b0 b1
  | 5 => eo_or (-2147483648) 2147483647 a0 a1 b0 b1
  | 6 => eo_shl (-2147483648) 2147483647 a0 a1 b0 b1
  | 7 => (eo_min a0 0, eo_max a1 0)
  | _ => eo_ushr (-2147483648) 2147483647 a0 a1
def eo_fi (op : Nat) (x y : Int32) : Int32 := match op with
  | 0 => x * y
  | 1 => x / y
  | 2 => x - x / y * y
  | 3 => x &&& y
  | 4 => x ||| y
  | 5 => x ^^^ y
  | 6 => x <<< (y &&& 31)
  | 7 => x >>> (y &&& 31)
  | _ => (x.toUInt32 >>> (y.toUInt32 &&& Int32.toUInt32 31)).toInt32
theorem eo_i_ok {op : Nat} {a0 a1 b0 b1 : Int} {x y : Int32} (h1 : a0 ≤ x.toInt) (h2 : x.toInt ≤ a1) (h3 : b0 ≤ y.toInt) (h4 : y.toInt ≤ b1) (hy : op = 1 ∨ op = 2 → y.toInt ≠ 0) (r1 : -2147483648 ≤ (eo_i op a0 a1 b0 b1).1) (r2 : (eo_i op a0 a1 b0 b1).2 ≤ 2147483647) : (eo_i op a0 a1 b0 b1).1 ≤ (eo_fi op x y).toInt ∧ (eo_fi op x y).toInt ≤ (eo_i op a0 a1 b0 b1).2 := by
  match op with
  | 0 =>
    have g := eo_mul_ok h1 h2 h3 h4
    show (eo_mul a0 a1 b0 b1).1 ≤ (x * y).toInt ∧ (x * y).toInt ≤ (eo_mul a0 a1 b0 b1).2
    have r1 : -2147483648 ≤ (eo_mul a0 a1 b0 b1).1 := r1
    have r2 : (eo_mul a0 a1 b0 b1).2 ≤ 2147483647 := r2
    rw [Jvm.Kit.i32_mul (by omega) (by omega)]
    exact g
  | 1 =>
    have g := eo_div_ok h1 h2 h3 h4
    show (eo_div a0 a1 b0 b1).1 ≤ (x / y).toInt ∧ (x / y).toInt ≤ (eo_div a0 a1 b0 b1).2
    have r1 : -2147483648 ≤ (eo_div a0 a1 b0 b1).1 := r1
    have r2 : (eo_div a0 a1 b0 b1).2 ≤ 2147483647 := r2
    have h9 : ¬ (x.toInt = -2 ^ 31 ∧ y.toInt = -1) := by
      rintro ⟨q1, q2⟩
      rw [q1, q2] at g
      have : (-2 ^ 31 : Int).tdiv (-1) = 2147483648 := by decide
      omega
    rw [Jvm.Kit.i32_div h9]
    exact g
  | 2 =>
    have g := eo_rem_ok h1 h2 h3 h4 (hy (Or.inr rfl))
    show (eo_rem a0 a1 b0 b1).1 ≤ (x - x / y * y).toInt ∧ (x - x / y * y).toInt ≤ (eo_rem a0 a1 b0 b1).2
    rw [rem_toInt]
    exact g
  | 3 => exact eo_and_ok h1 h2 h3 h4
  | 4 => exact eo_or_ok h1 h2 h3 h4
  | 5 => exact eo_xor_ok h1 h2 h3 h4
  | 6 => exact eo_shl_ok h1 h2 h3 h4 r2
  | 7 => exact eo_shr_ok h1 h2
  | n + 8 => exact eo_ushr_ok h1 h2
def eo_l (op : Nat) (a0 a1 b0 b1 : Int) : Int × Int := match op with
  | 0 => eo_mul a0 a1 b0 b1
  | 1 => eo_div a0 a1 b0 b1
  | _ => eo_rem a0 a1 b0 b1
def eo_fl (op : Nat) (x y : Int64) : Int64 := match op with
  | 0 => x * y
  | 1 => x / y
  | _ => x - x / y * y
theorem eo_l_ok {op : Nat} {a0 a1 b0 b1 : Int} {x y : Int64} (h1 : a0 ≤ x.toInt) (h2 : x.toInt ≤ a1) (h3 : b0 ≤ y.toInt) (h4 : y.toInt ≤ b1) (hy : op ≠ 0 → y.toInt ≠ 0) (r1 : -9223372036854775808 ≤ (eo_l op a0 a1 b0 b1).1) (r2 : (eo_l op a0 a1 b0 b1).2 ≤ 9223372036854775807) : (eo_l op a0 a1 b0 b1).1 ≤ (eo_fl op x y).toInt ∧ (eo_fl op x y).toInt ≤ (eo_l op a0 a1 b0 b1).2 := by
  match op with
  | 0 =>
    have g := eo_mul_ok h1 h2 h3 h4
    show (eo_mul a0 a1 b0 b1).1 ≤ (x * y).toInt ∧ (x * y).toInt ≤ (eo_mul a0 a1 b0 b1).2
    have r1 : -9223372036854775808 ≤ (eo_mul a0 a1 b0 b1).1 := r1
    have r2 : (eo_mul a0 a1 b0 b1).2 ≤ 9223372036854775807 := r2
    rw [Jvm.Kit.i64_mul (by omega) (by omega)]
    exact g
  | 1 =>
    have g := eo_div_ok h1 h2 h3 h4
    show (eo_div a0 a1 b0 b1).1 ≤ (x / y).toInt ∧ (x / y).toInt ≤ (eo_div a0 a1 b0 b1).2
    have r1 : -9223372036854775808 ≤ (eo_div a0 a1 b0 b1).1 := r1
    have r2 : (eo_div a0 a1 b0 b1).2 ≤ 9223372036854775807 := r2
    have h9 : ¬ (x.toInt = -2 ^ 63 ∧ y.toInt = -1) := by
      rintro ⟨q1, q2⟩
      rw [q1, q2] at g
      have : (-2 ^ 63 : Int).tdiv (-1) = 9223372036854775808 := by decide
      omega
    rw [Jvm.Kit.i64_div h9]
    exact g
  | n + 2 =>
    have g := eo_rem_ok h1 h2 h3 h4 (hy (by omega))
    show (eo_rem a0 a1 b0 b1).1 ≤ (x - x / y * y).toInt ∧ (x - x / y * y).toInt ≤ (eo_rem a0 a1 b0 b1).2
    rw [Jvm.Kit.i64_rem]
    exact g
