/-! the reckoner with bounds: the steps that only change the stack -/
def al_g (L : List (Nat × eV)) (i : Nat) : Option eV := match L with
  | [] => none
  | p :: l => if Nat.beq p.1 i then some p.2 else al_g l i
theorem al_g_ok : ∀ {L : List (Nat × eV)} {i : Nat} {a : eV}, al_g L i = some a → (i, a) ∈ L
  | [], _, _, h => by cases h
  | p :: l, i, a, h => by
    unfold al_g at h
    split at h
    · next h1 =>
      cases h
      rw [← Nat.eq_of_beq_eq_true h1]
      exact List.mem_cons_self ..
    · exact List.mem_cons_of_mem _ (al_g_ok h)
/-- a place onto the stack -/
def ah_ld (n : Nat) (A : eS) (i : Nat) : Option eS := match al_g A.2.2.2.2.1 i with
  | some a => if Nat.beq a.1 n then some (es_S A (a :: A.2.2.2.2.2)) else none
  | none => none
theorem ah_ld_ok {c : eX} {ρ : List Int} {A A' : eS} {lv : List (Nat × pv)} {st : List pv} {h : pH} (hr : r_R c ρ A lv st h) {n i : Nat} (hA : ah_ld n A i = some A') : ∃ v a, px_lg lv i = some v ∧ v_R ρ a v ∧ a.1 = n ∧ r_R c ρ A' lv (v :: st) h := by
  unfold ah_ld at hA
  split at hA
  · next a ha =>
    split at hA
    · next hn =>
      cases hA
      obtain ⟨v, h1, h2⟩ := hr.2.1 _ (al_g_ok ha)
      exact ⟨v, a, h1, h2, Nat.eq_of_beq_eq_true hn, hr.1, hr.2.1, h2, hr.2.2⟩
    · cases hA
  · cases hA
/-- a constant onto the stack -/
def ah_c (A : eS) (w : Nat) (n lo hi : Int) : Option eS := if ea_le lo n && ea_le n hi then ea_f n (fun n => some (es_S A ((w, (n, [])) :: A.2.2.2.2.2))) else none
theorem ah_c_ok {c : eX} {ρ : List Int} {A A' : eS} {lv : List (Nat × pv)} {st : List pv} {h : pH} (hr : r_R c ρ A lv st h) {w : Nat} {n lo hi : Int} (hA : ah_c A w n lo hi = some A') {v : pv} (hw : ct v = w) (hv : lo ≤ n → n ≤ hi → cv v = n) : r_R c ρ A' lv (v :: st) h := by
  unfold ah_c at hA
  split at hA
  · next hh =>
    rw [Bool.and_eq_true, ea_le_iff, ea_le_iff] at hh
    rw [ea_f_eq] at hA
    cases hA
    exact ⟨hr.1, hr.2.1, v_R_mk hw (by rw [hv hh.1 hh.2]; exact ev_c n), hr.2.2⟩
  · cases hA
theorem xe_j_v {y : Nat} (h : y < 4294967296) : (xe_j y).toInt = (y : Int) - 2147483648 := by rw [xe_ti, xe_ij h]
theorem xe_k_v {y : Nat} (h : y < 18446744073709551616) : (xe_k y).toInt = (y : Int) - 9223372036854775808 := by rw [xe_tl, xe_lk h]
/-- a reference out of a set onto the stack -/
def ah_rf (A : eS) (s : List Nat) (S : List eV) : eS := es_pv A 2 (0, 100000, s) S
/-- a number onto the stack, with two constraints -/
def es_pc (A : eS) (e : eE) (S : List eV) (f g : eT → eT) : eS := ea_ft (f (ea_val A 0 e).1.2) (fun t => ea_ft (g (ea_val A 0 e).1.2) (fun u => es_S (es_E (ea_val A 0 e).2 (ea_val A 0 e).2.2.1 (t :: u :: (ea_val A 0 e).2.2.2.1)) ((ea_val A 0 e).1 :: S)))
theorem es_pc_ok {c : eX} {ρ : List Int} {A : eS} {lv : List (Nat × pv)} {h : pH} {S : List eV} {r : List pv} (hb : b_R c ρ A h) (hl : l_R ρ A.2.2.2.2.1 lv) (hs : s_R ρ S r) {e : eE} {x : Int32} (hx : ok_v x.toInt e) {f g : eT → eT} (h1 : ∀ (ρ' : List Int) (t : eT), ρ <+: ρ' → ev_t ρ' t x.toInt → ∃ v, ev_t ρ' (f t) v ∧ v ≤ 0) (h2 : ∀ (ρ' : List Int) (t : eT), ρ <+: ρ' → ev_t ρ' t x.toInt → ∃ v, ev_t ρ' (g t) v ∧ v ≤ 0) : ∃ ρ', ρ <+: ρ' ∧ r_R c ρ' (es_pc A e S f g) lv (.inl x :: r) h := by
  obtain ⟨ρ', g1, g2, g3, g4, g5⟩ := ea_val_ok hb 0 hx
  unfold es_pc
  rw [ea_ft_eq, ea_ft_eq]
  refine ⟨ρ', g1, b_R_E g2 g2.2.1 (fun t ht => ?_), ?_, ?_, s_R_mono g1 hs⟩
  · rcases List.mem_cons.mp ht with rfl | ht
    · exact h1 ρ' _ g1 g4
    · rcases List.mem_cons.mp ht with rfl | ht
      · exact h2 ρ' _ g1 g4
      · exact g2.2.2.1 t ht
  · show l_R ρ' (ea_val A 0 e).2.2.2.2.2.1 lv
    rw [g5]
    exact l_R_mono g1 hl
  · have e1 : (ea_val A 0 e).1 = (0, (ea_val A 0 e).1.2) := Prod.ext g3 rfl
    rw [e1]
    exact v_R_mk (v := .inl x) rfl g4
/-- Math -/
def ah_mx (A : eS) (mx : Bool) : Option eS := ea_2 0 A.2.2.2.2.2 (fun X Y S => ea_b2 A.2.1 X (fun a0 a1 => ea_b2 A.2.1 Y (fun b0 b1 => match mx with
  | true => ea_f (eo_max a0 b0) (fun lo => ea_f (eo_max a1 b1) (fun hi => some (es_pc A (lo, hi, []) S (fun v => ea_sub X v) (fun v => ea_sub Y v))))
  | false => ea_f (eo_min a0 b0) (fun lo => ea_f (eo_min a1 b1) (fun hi => some (es_pc A (lo, hi, []) S (fun v => ea_sub v X) (fun v => ea_sub v Y)))))))
def ah_ab (A : eS) (w : Nat) : Option eS := ea_1 w A.2.2.2.2.2 (fun X S => ea_b2 A.2.1 X (fun a0 a1 => if ea_le a0 (ea_lo0 w) then some (es_full A w S) else ea_f (eo_max (eo_abs a0) (eo_abs a1)) (fun hi => some (es_pv A w (0, hi, []) S))))
/-- a number as it is, if it is within; else any between the two -/
def ah_nr (A : eS) (X : eT) (w : Nat) (lo hi : Int) (S : List eV) : eS := match ea_bt A.2.1 A.2.2.1 X lo hi with
  | true => es_S A ((w, X) :: S)
  | false => es_pv A w (lo, hi, []) S
def ah_0f (I : Jvm.ClassFile.Instr) : (Nat → eE) → Nat → Nat → Nat → eS → Option eS := match I with
  | .iconst n => fun _ _ _ _ A => ah_c A 0 n (-2147483648) 2147483647
  | .bipush n => fun _ _ _ _ A => ah_c A 0 n (-128) 127
  | .sipush n => fun _ _ _ _ A => ah_c A 0 n (-32768) 32767
  | .lconst n => fun _ _ _ _ A => ah_c A 1 ((n : Nat) : Int) 0 1
  | .ldc _ => fun _ _ x y A => match x with
    | 0 => if Nat.ble y 4294967295 then ah_c A 0 ((y : Int) - 2147483648) (-2147483648) 2147483647 else none
    | 1 => if Nat.ble y 4 then some (ah_rf A [1002 + y] A.2.2.2.2.2) else none
    | _ => none
  | .ldc_w _ => fun _ _ x y A => if Nat.beq x 0 && Nat.ble y 4294967295 then ah_c A 0 ((y : Int) - 2147483648) (-2147483648) 2147483647 else none
  | .ldc2_w _ => fun _ _ _ y A => if Nat.ble y 18446744073709551615 then ah_c A 1 ((y : Int) - 9223372036854775808) (-9223372036854775808) 9223372036854775807 else none
  | .aconst_null => fun _ _ _ _ A => some (ah_rf A [0] A.2.2.2.2.2)
  | .iload i => fun _ _ _ _ A => ah_ld 0 A i
  | .iload_n i => fun _ _ _ _ A => ah_ld 0 A (i : Nat)
  | .lload i => fun _ _ _ _ A => ah_ld 1 A i
  | .lload_n i => fun _ _ _ _ A => ah_ld 1 A (i : Nat)
  | .aload i => fun _ _ _ _ A => ah_ld 2 A i
  | .aload_n i => fun _ _ _ _ A => ah_ld 2 A (i : Nat)
  | .iadd => fun _ _ _ _ A => ea_2 0 A.2.2.2.2.2 (fun X Y S => some (es_lin A 0 (ea_add X Y) S))
  | .isub => fun _ _ _ _ A => ea_2 0 A.2.2.2.2.2 (fun X Y S => some (es_lin A 0 (ea_sub X Y) S))
  | .imul => fun _ _ _ _ A => ea_2 0 A.2.2.2.2.2 (fun X Y S => es_mul A 0 X Y S)
  | .idiv => fun _ _ _ _ A => ea_2 0 A.2.2.2.2.2 (fun X Y S => es_op A 0 1 X Y S)
  | .irem => fun _ _ _ _ A => ea_2 0 A.2.2.2.2.2 (fun X Y S => es_op A 0 2 X Y S)
  | .ineg => fun _ _ _ _ A => ea_1 0 A.2.2.2.2.2 (fun X S => some (es_lin A 0 (ea_neg X) S))
  | .iand => fun _ _ _ _ A => ea_2 0 A.2.2.2.2.2 (fun X Y S => es_op A 0 3 X Y S)
  | .ior => fun _ _ _ _ A => ea_2 0 A.2.2.2.2.2 (fun X Y S => es_op A 0 4 X Y S)
  | .ixor => fun _ _ _ _ A => ea_2 0 A.2.2.2.2.2 (fun X Y S => es_op A 0 5 X Y S)
  | .ishl => fun _ _ _ _ A => ea_2 0 A.2.2.2.2.2 (fun X Y S => es_op A 0 6 X Y S)
  | .ishr => fun _ _ _ _ A => ea_2 0 A.2.2.2.2.2 (fun X Y S => es_op A 0 7 X Y S)
  | .iushr => fun _ _ _ _ A => ea_2 0 A.2.2.2.2.2 (fun X Y S => es_op A 0 8 X Y S)
  | .ladd => fun _ _ _ _ A => ea_2 1 A.2.2.2.2.2 (fun X Y S => some (es_lin A 1 (ea_add X Y) S))
  | .lsub => fun _ _ _ _ A => ea_2 1 A.2.2.2.2.2 (fun X Y S => some (es_lin A 1 (ea_sub X Y) S))
  | .lmul => fun _ _ _ _ A => ea_2 1 A.2.2.2.2.2 (fun X Y S => es_mul A 1 X Y S)
  | .ldiv => fun _ _ _ _ A => ea_2 1 A.2.2.2.2.2 (fun X Y S => es_op A 1 1 X Y S)
  | .lrem => fun _ _ _ _ A => ea_2 1 A.2.2.2.2.2 (fun X Y S => es_op A 1 2 X Y S)
  | .lneg => fun _ _ _ _ A => ea_1 1 A.2.2.2.2.2 (fun X S => some (es_lin A 1 (ea_neg X) S))
  | .lcmp => fun _ _ _ _ A => ea_2 1 A.2.2.2.2.2 (fun X Y S => ea_ft (ea_sub X Y) (fun t => some (es_S A ((3, t) :: S))))
  | .i2l => fun _ _ _ _ A => ea_1 0 A.2.2.2.2.2 (fun X S => some (es_S A ((1, X) :: S)))
  | .l2i => fun _ _ _ _ A => ea_1 1 A.2.2.2.2.2 (fun X S => some (ah_nr A X 0 (-2147483648) 2147483647 S))
  | .i2b => fun _ _ _ _ A => ea_1 0 A.2.2.2.2.2 (fun X S => some (ah_nr A X 0 (-128) 127 S))
  | .i2c => fun _ _ _ _ A => ea_1 0 A.2.2.2.2.2 (fun X S => some (ah_nr A X 0 0 65535 S))
  | .dup => fun _ _ _ _ A => match A.2.2.2.2.2 with
    | a :: r => if Nat.beq a.1 1 then none else some (es_S A (a :: a :: r))
    | _ => none
  | .dup2 => fun _ _ _ _ A => match A.2.2.2.2.2 with
    | a :: b :: r => if Nat.beq a.1 1 || Nat.beq b.1 1 then none else some (es_S A (a :: b :: a :: b :: r))
    | _ => none
  | .pop => fun _ _ _ _ A => match A.2.2.2.2.2 with
    | a :: r => if Nat.beq a.1 1 then none else some (es_S A r)
    | _ => none
  | .getfield _ => fun G _ x y A => ah_get G A x y A.2.2.2.2.2
  | .arraylength => fun _ _ _ _ A => ah_len A A.2.2.2.2.2
  | .iaload => fun G _ _ _ A => ah_ald G 1 0 A A.2.2.2.2.2
  | .baload => fun G _ _ _ A => ah_ald G 2 0 A A.2.2.2.2.2
  | .laload => fun G _ _ _ A => ah_ald G 3 1 A A.2.2.2.2.2
  | .aaload => fun G _ _ _ A => ah_ald G 4 2 A A.2.2.2.2.2
  | .invokestatic _ => fun _ j x _ A => if ea_d A j 1 && Nat.ble (es_sum A.2.2.2.2.2) 8 then (match x with
    | 2 => ah_mx A true
    | 3 => ah_mx A false
    | 4 => ah_ab A 1
    | _ => none) else none
  | _ => fun _ _ _ _ _ => none
theorem ea_abs_b {a0 a1 x : Int} (h1 : a0 ≤ x) (h2 : x ≤ a1) : (if 0 < x then x else -x) ≤ eo_max (eo_abs a0) (eo_abs a1) ∧ 0 ≤ (if 0 < x then x else -x) := by
  have m3 := eo_max_l (eo_abs a0) (eo_abs a1)
  have m4 := eo_max_r (eo_abs a0) (eo_abs a1)
  generalize eo_max (eo_abs a0) (eo_abs a1) = M at m3 m4 ⊢
  unfold eo_abs at m3 m4
  split <;> omega
theorem xe_abs_v {x : Int64} (h : -9223372036854775808 < x.toInt) : (xe_abs x).toInt = if 0 < x.toInt then x.toInt else -x.toInt := by
  unfold xe_abs
  by_cases h0 : 0 < x
  · have h1 := Int64.lt_iff_toInt_lt.mp h0
    rw [Int64.toInt_zero] at h1
    rw [if_pos h0, if_pos h1]
  · have h1 : ¬ 0 < x.toInt := fun z => h0 (Int64.lt_iff_toInt_lt.mpr (by rw [Int64.toInt_zero]; exact z))
    rw [if_neg h0, if_neg h1, Jvm.Kit.i64_neg (by omega)]
theorem xs_ab_v {x : Int32} (h : -2147483648 < x.toInt) : (xs_ab x).toInt = if 0 < x.toInt then x.toInt else -x.toInt := by
  unfold xs_ab
  by_cases h0 : x < 0
  · have h1 := Int32.lt_iff_toInt_lt.mp h0
    rw [Int32.toInt_zero] at h1
    rw [if_pos h0, if_neg (by omega), Jvm.Kit.i32_neg (by omega)]
  · have h1 : ¬ x.toInt < 0 := fun z => h0 (Int32.lt_iff_toInt_lt.mpr (by rw [Int32.toInt_zero]; exact z))
    rw [if_neg h0]
    split
    · rfl
    · omega
theorem xe_max_v (x y : Int32) : (xe_max x y).toInt = if x.toInt < y.toInt then y.toInt else x.toInt := by
  unfold xe_max
  by_cases h0 : x < y
  · rw [if_pos h0, if_pos (Int32.lt_iff_toInt_lt.mp h0)]
  · rw [if_neg h0, if_neg (fun z => h0 (Int32.lt_iff_toInt_lt.mpr z))]
theorem xe_min_v (x y : Int32) : (xe_min x y).toInt = if y.toInt < x.toInt then y.toInt else x.toInt := by
  unfold xe_min
  by_cases h0 : y < x
  · rw [if_pos h0, if_pos (Int32.lt_iff_toInt_lt.mp h0)]
  · rw [if_neg h0, if_neg (fun z => h0 (Int32.lt_iff_toInt_lt.mpr z))]
theorem xs_bc_v (x : Int32) : 0 ≤ (xs_bc x).toInt ∧ (xs_bc x).toInt ≤ 63 := eo_and_r (y := 63) (by decide)
theorem ah_mx_ok {c : eX} {ρ : List Int} {A A' : eS} {lv : List (Nat × pv)} {st : List pv} {h : pH} (hr : r_R c ρ A lv st h) {b : Bool} (hA : ah_mx A b = some A') : ∃ st2 ρ', px_u2 (match b with
    | true => xe_max
    | false => xe_min) st = some st2 ∧ ρ <+: ρ' ∧ r_R c ρ' A' lv st2 h := by
  obtain ⟨hb, hl, hs⟩ := hr
  unfold ah_mx at hA
  obtain ⟨x, y, X, Y, S, r, rfl, hx, hy, hs', hk⟩ := ea_2_i hs hA
  obtain ⟨a0, a1, h1, h2, hk⟩ := ea_b2_ok hb.2.1 hx hk
  obtain ⟨b0, b1, h3, h4, hk⟩ := ea_b2_ok hb.2.1 hy hk
  cases b with
  | true =>
    dsimp only at hk
    rw [ea_f_eq, ea_f_eq] at hk
    cases hk
    have m1 := eo_max_l a1 b1
    have m2 := eo_max_r a1 b1
    have g : ok_v (xe_max x y).toInt (eo_max a0 b0, eo_max a1 b1, []) := by
      rw [xe_max_v]
      refine ⟨?_, ?_, Or.inl rfl⟩
      · show eo_max a0 b0 ≤ _
        unfold eo_max
        split <;> split <;> omega
      · show _ ≤ eo_max a1 b1
        split <;> omega
    obtain ⟨ρ', p1, p2⟩ := es_pc_ok hb hl hs' g (f := fun v => ea_sub X v) (g := fun v => ea_sub Y v) (fun ρ' t q1 q2 => ⟨_, ev_sub (ev_t_mono q1 hx) q2, by rw [xe_max_v]; split <;> omega⟩) (fun ρ' t q1 q2 => ⟨_, ev_sub (ev_t_mono q1 hy) q2, by rw [xe_max_v]; split <;> omega⟩)
    exact ⟨_, ρ', rfl, p1, p2⟩
  | false =>
    dsimp only at hk
    rw [ea_f_eq, ea_f_eq] at hk
    cases hk
    have m1 := eo_min_l a0 b0
    have m2 := eo_min_r a0 b0
    have g : ok_v (xe_min x y).toInt (eo_min a0 b0, eo_min a1 b1, []) := by
      rw [xe_min_v]
      refine ⟨?_, ?_, Or.inl rfl⟩
      · show eo_min a0 b0 ≤ _
        split <;> omega
      · show _ ≤ eo_min a1 b1
        unfold eo_min
        split <;> split <;> omega
    obtain ⟨ρ', p1, p2⟩ := es_pc_ok hb hl hs' g (f := fun v => ea_sub v X) (g := fun v => ea_sub v Y) (fun ρ' t q1 q2 => ⟨_, ev_sub q2 (ev_t_mono q1 hx), by rw [xe_min_v]; split <;> omega⟩) (fun ρ' t q1 q2 => ⟨_, ev_sub q2 (ev_t_mono q1 hy), by rw [xe_min_v]; split <;> omega⟩)
    exact ⟨_, ρ', rfl, p1, p2⟩
theorem ah_ab_i {c : eX} {ρ : List Int} {A A' : eS} {lv : List (Nat × pv)} {st : List pv} {h : pH} (hr : r_R c ρ A lv st h) (hA : ah_ab A 0 = some A') : ∃ st2 ρ', px_u1 xs_ab st = some st2 ∧ ρ <+: ρ' ∧ r_R c ρ' A' lv st2 h := by
  obtain ⟨hb, hl, hs⟩ := hr
  unfold ah_ab at hA
  obtain ⟨x, X, S, r, rfl, hx, hs', hk⟩ := ea_1_i hs hA
  obtain ⟨a0, a1, h1, h2, hk⟩ := ea_b2_ok hb.2.1 hx hk
  split at hk
  · cases hk
    obtain ⟨ρ', p1, p2⟩ := es_pv_ok hb hl hs' (v := .inl (xs_ab x)) rfl (ok_full (w := 0) rfl (by decide))
    exact ⟨_, ρ', rfl, p1, p2⟩
  · next h0 =>
    have h0 : -2147483648 < a0 := ea_nle (Bool.eq_false_iff.mpr h0)
    rw [ea_f_eq] at hk
    cases hk
    have g := ea_abs_b h1 h2
    rw [← xs_ab_v (by omega)] at g
    obtain ⟨ρ', p1, p2⟩ := es_pv_ok hb hl hs' (v := .inl (xs_ab x)) (e := (0, eo_max (eo_abs a0) (eo_abs a1), [])) rfl ⟨g.2, g.1, Or.inl rfl⟩
    exact ⟨_, ρ', rfl, p1, p2⟩
theorem ah_ab_l {c : eX} {ρ : List Int} {A A' : eS} {lv : List (Nat × pv)} {st : List pv} {h : pH} (hr : r_R c ρ A lv st h) (hA : ah_ab A 1 = some A') : ∃ st2 ρ', px_m1 xe_abs st = some st2 ∧ ρ <+: ρ' ∧ r_R c ρ' A' lv st2 h := by
  obtain ⟨hb, hl, hs⟩ := hr
  unfold ah_ab at hA
  obtain ⟨x, X, S, r, rfl, hx, hs', hk⟩ := ea_1_l hs hA
  obtain ⟨a0, a1, h1, h2, hk⟩ := ea_b2_ok hb.2.1 hx hk
  split at hk
  · cases hk
    obtain ⟨ρ', p1, p2⟩ := es_pv_ok hb hl hs' (v := .inr (.inl (xe_abs x))) rfl (ok_full (w := 1) rfl (by decide))
    exact ⟨_, ρ', rfl, p1, p2⟩
  · next h0 =>
    have h0 : -9223372036854775808 < a0 := ea_nle (Bool.eq_false_iff.mpr h0)
    rw [ea_f_eq] at hk
    cases hk
    have g := ea_abs_b h1 h2
    rw [← xe_abs_v (by omega)] at g
    obtain ⟨ρ', p1, p2⟩ := es_pv_ok hb hl hs' (v := .inr (.inl (xe_abs x))) (e := (0, eo_max (eo_abs a0) (eo_abs a1), [])) rfl ⟨g.2, g.1, Or.inl rfl⟩
    exact ⟨_, ρ', rfl, p1, p2⟩
theorem ah_nr_ok {c : eX} {ρ : List Int} {A : eS} {lv : List (Nat × pv)} {h : pH} {S : List eV} {r : List pv} (hb : b_R c ρ A h) (hl : l_R ρ A.2.2.2.2.1 lv) (hs : s_R ρ S r) {X : eT} {x lo hi : Int} {w : Nat} {v : pv} (hx : ev_t ρ X x) (hw : ct v = w) (h1 : lo ≤ x → x ≤ hi → cv v = x) (h2 : lo ≤ cv v ∧ cv v ≤ hi) : ∃ ρ', ρ <+: ρ' ∧ r_R c ρ' (ah_nr A X w lo hi S) lv (v :: r) h := by
  unfold ah_nr
  split
  · next hh =>
    have g := ea_bt_ok hb.2.1 hb.2.2.1 hh hx
    exact ⟨ρ, List.prefix_rfl, hb, hl, v_R_mk hw (by rw [h1 g.1 g.2]; exact hx), hs⟩
  · exact es_pv_ok hb hl hs hw ⟨h2.1, h2.2, Or.inl rfl⟩
theorem lg_cmp_v (x y : Int64) : ((lg_cmp x y).toInt < 0 ↔ x.toInt - y.toInt < 0) ∧ ((lg_cmp x y).toInt = 0 ↔ x.toInt - y.toInt = 0) := by
  unfold lg_cmp
  by_cases h1 : x > y
  · have h2 := Int64.lt_iff_toInt_lt.mp h1
    rw [if_pos h1]
    have : (1 : Int32).toInt = 1 := by decide
    omega
  · have h2 : ¬ y.toInt < x.toInt := fun z => h1 (Int64.lt_iff_toInt_lt.mpr z)
    rw [if_neg h1]
    by_cases h3 : x = y
    · rw [if_pos h3, h3]
      have : (0 : Int32).toInt = 0 := by decide
      omega
    · have h4 : ¬ x.toInt = y.toInt := fun z => h3 (Int64.toInt_inj.mp z)
      rw [if_neg h3]
      have : (-1 : Int32).toInt = -1 := by decide
      omega
