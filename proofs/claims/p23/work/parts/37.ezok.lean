/-! the reckoner with bounds: the steps that only change the stack are right -/
theorem px_ldi_ok {lv : List (Nat × pv)} {i : Nat} {st : List pv} {ρ : List Int} {a : eV} {v : pv} (h1 : px_lg lv i = some v) (h2 : v_R ρ a v) (h3 : a.1 = 0) : px_ldi lv i st = some (v :: st) := by
  obtain ⟨x, rfl, -⟩ := v_R_i h3 h2
  unfold px_ldi
  rw [h1]
theorem px_ldl_ok {lv : List (Nat × pv)} {i : Nat} {st : List pv} {ρ : List Int} {a : eV} {v : pv} (h1 : px_lg lv i = some v) (h2 : v_R ρ a v) (h3 : a.1 = 1) : px_ldl lv i st = some (v :: st) := by
  obtain ⟨x, rfl, -⟩ := v_R_l h3 h2
  unfold px_ldl
  rw [h1]
theorem px_lda_ok {lv : List (Nat × pv)} {i : Nat} {st : List pv} {ρ : List Int} {a : eV} {v : pv} (h1 : px_lg lv i = some v) (h2 : v_R ρ a v) (h3 : a.1 = 2) : px_lda lv i st = some (v :: st) := by
  obtain ⟨x, rfl, -⟩ := v_R_r h3 h2
  unfold px_lda
  rw [h1]
theorem ah_rf_ok {c : eX} {ρ : List Int} {A : eS} {lv : List (Nat × pv)} {h : pH} {S : List eV} {r : List pv} (hb : b_R c ρ A h) (hl : l_R ρ A.2.2.2.2.1 lv) (hs : s_R ρ S r) {s : List Nat} {x : Option Nat} (h1 : (cv (.inr (.inr x))).toNat ∈ s) (h2 : cv (.inr (.inr x)) ≤ 100000) : ∃ ρ', ρ <+: ρ' ∧ r_R c ρ' (ah_rf A s S) lv (.inr (.inr x) :: r) h := by
  refine es_pv_ok hb hl hs (v := .inr (.inr x)) (e := (0, 100000, s)) rfl ⟨?_, h2, Or.inr h1⟩
  cases x with
  | none => exact Int.le_refl 0
  | some k => show (0 : Int) ≤ (k : Int) + 1; omega
theorem wz_i {x y : Int32} {f : Int32 → Int32 → Int32} {z : Int} (hz : -2147483648 ≤ z → z ≤ 2147483647 → (f x y).toInt = z) : ea_lo0 0 ≤ z → z ≤ ea_hi0 0 → cv (.inl (f x y)) = z := fun h1 h2 => hz h1 h2
set_option maxHeartbeats 4000000 in
theorem ah_0_ok {c : eX} {ρ : List Int} {A A' : eS} {lv : List (Nat × pv)} {st : List pv} {h : pH} {I : Jvm.ClassFile.Instr} {j d x y : Nat} (hr : r_R c ρ A lv st h) (hd : d + j = c.2.2.2.2) (hA : ah_0f I c.1 j x y A = some A') : ∃ st2 ρ', px_push eL d none I x y lv st h = some st2 ∧ ρ <+: ρ' ∧ r_R c ρ' A' lv st2 h := by
  obtain ⟨hb, hl, hs⟩ := id hr
  unfold ah_0f at hA
  split at hA <;> (try dsimp only at hA)
  · next n =>
    refine ⟨_, ρ, rfl, List.prefix_rfl, ah_c_ok hr hA rfl (fun h1 h2 => ?_)⟩
    exact Int32.toInt_ofInt_of_le (by omega) (by omega)
  · next n =>
    refine ⟨_, ρ, rfl, List.prefix_rfl, ah_c_ok hr hA rfl (fun h1 h2 => ?_)⟩
    show ((Int8.ofInt n).toInt32).toInt = n
    rw [Int8.toInt_toInt32]
    exact Int8.toInt_ofInt_of_le (by omega) (by omega)
  · next n =>
    refine ⟨_, ρ, rfl, List.prefix_rfl, ah_c_ok hr hA rfl (fun h1 h2 => ?_)⟩
    show ((Int16.ofInt n).toInt32).toInt = n
    rw [Int16.toInt_toInt32]
    exact Int16.toInt_ofInt_of_le (by omega) (by omega)
  · next n =>
    refine ⟨_, ρ, rfl, List.prefix_rfl, ah_c_ok hr hA (v := .inr (.inl (Int64.ofNat (n : Nat)))) rfl (fun h1 h2 => ?_)⟩
    exact Int64.toInt_ofNat_of_lt (by omega)
  · split at hA
    · split at hA
      · next hy =>
        have hy := Nat.le_of_ble_eq_true hy
        refine ⟨_, ρ, rfl, List.prefix_rfl, ah_c_ok hr hA (v := .inl (xe_j y)) rfl (fun h1 h2 => xe_j_v (by omega))⟩
      · cases hA
    · split at hA
      · next hy =>
        have hy := Nat.le_of_ble_eq_true hy
        cases hA
        obtain ⟨ρ', p1, p2⟩ := ah_rf_ok hb hl hs (s := [1002 + y]) (x := some (1001 + y)) (by
          show (((1001 + y : Nat) : Int) + 1).toNat ∈ [1002 + y]
          rw [List.mem_singleton]
          omega) (by show ((1001 + y : Nat) : Int) + 1 ≤ 100000; omega)
        refine ⟨_, ρ', ?_, p1, p2⟩
        unfold px_push px_pf
        dsimp only
        rw [if_neg (by decide), if_pos ⟨rfl, by omega⟩]
      · cases hA
    · cases hA
  · split at hA
    · next hy =>
      rw [Bool.and_eq_true] at hy
      have hx := Nat.eq_of_beq_eq_true hy.1
      have hy := Nat.le_of_ble_eq_true hy.2
      subst hx
      refine ⟨_, ρ, rfl, List.prefix_rfl, ah_c_ok hr hA (v := .inl (xe_j y)) rfl (fun h1 h2 => xe_j_v (by omega))⟩
    · cases hA
  · split at hA
    · next hy =>
      have hy := Nat.le_of_ble_eq_true hy
      refine ⟨_, ρ, rfl, List.prefix_rfl, ah_c_ok hr hA (v := .inr (.inl (xe_k y))) rfl (fun h1 h2 => xe_k_v (by omega))⟩
    · cases hA
  · cases hA
    obtain ⟨ρ', p1, p2⟩ := ah_rf_ok hb hl hs (s := [0]) (x := none) (by decide) (by decide)
    exact ⟨_, ρ', rfl, p1, p2⟩
  · obtain ⟨v, a, h1, h2, h3, h4⟩ := ah_ld_ok hr hA
    exact ⟨_, ρ, px_ldi_ok h1 h2 h3, List.prefix_rfl, h4⟩
  · obtain ⟨v, a, h1, h2, h3, h4⟩ := ah_ld_ok hr hA
    exact ⟨_, ρ, px_ldi_ok h1 h2 h3, List.prefix_rfl, h4⟩
  · obtain ⟨v, a, h1, h2, h3, h4⟩ := ah_ld_ok hr hA
    exact ⟨_, ρ, px_ldl_ok h1 h2 h3, List.prefix_rfl, h4⟩
  · obtain ⟨v, a, h1, h2, h3, h4⟩ := ah_ld_ok hr hA
    exact ⟨_, ρ, px_ldl_ok h1 h2 h3, List.prefix_rfl, h4⟩
  · obtain ⟨v, a, h1, h2, h3, h4⟩ := ah_ld_ok hr hA
    exact ⟨_, ρ, px_lda_ok h1 h2 h3, List.prefix_rfl, h4⟩
  · obtain ⟨v, a, h1, h2, h3, h4⟩ := ah_ld_ok hr hA
    exact ⟨_, ρ, px_lda_ok h1 h2 h3, List.prefix_rfl, h4⟩
  · obtain ⟨x1, x2, X, Y, S, r, rfl, hx, hy, hs', hk⟩ := ea_2_i hs hA
    cases hk
    obtain ⟨ρ', p1, p2⟩ := es_lin_ok hb hl hs' (v := .inl (x1 + x2)) (w := 0) (by decide) rfl (ev_add hx hy) (fun g1 g2 => Jvm.Kit.i32_add (by have g1 : -2147483648 ≤ x1.toInt + x2.toInt := g1; omega) (by have g2 : x1.toInt + x2.toInt ≤ 2147483647 := g2; omega))
    exact ⟨_, ρ', rfl, p1, p2⟩
  · obtain ⟨x1, x2, X, Y, S, r, rfl, hx, hy, hs', hk⟩ := ea_2_i hs hA
    cases hk
    obtain ⟨ρ', p1, p2⟩ := es_lin_ok hb hl hs' (v := .inl (x1 - x2)) (w := 0) (by decide) rfl (ev_sub hx hy) (fun g1 g2 => Jvm.Kit.i32_sub (by have g1 : -2147483648 ≤ x1.toInt - x2.toInt := g1; omega) (by have g2 : x1.toInt - x2.toInt ≤ 2147483647 := g2; omega))
    exact ⟨_, ρ', rfl, p1, p2⟩
  · obtain ⟨x1, x2, X, Y, S, r, rfl, hx, hy, hs', hk⟩ := ea_2_i hs hA
    obtain ⟨ρ', p1, p2⟩ := es_mul_i hb hl hs' hx hy hk
    exact ⟨_, ρ', rfl, p1, p2⟩
  · obtain ⟨x1, x2, X, Y, S, r, rfl, hx, hy, hs', hk⟩ := ea_2_i hs hA
    obtain ⟨h0, ρ', p1, p2⟩ := es_op_i hb hl hs' hx hy hk
    refine ⟨_, ρ', ?_, p1, p2⟩
    show (if x2 = 0 then none else some (.inl (x1 / x2) :: r)) = _
    rw [if_neg (h0 (Or.inl rfl))]
    rfl
  · obtain ⟨x1, x2, X, Y, S, r, rfl, hx, hy, hs', hk⟩ := ea_2_i hs hA
    obtain ⟨h0, ρ', p1, p2⟩ := es_op_i hb hl hs' hx hy hk
    refine ⟨_, ρ', ?_, p1, p2⟩
    show (if x2 = 0 then none else some (.inl (x1 - x1 / x2 * x2) :: r)) = _
    rw [if_neg (h0 (Or.inr rfl))]
    rfl
  · obtain ⟨x1, X, S, r, rfl, hx, hs', hk⟩ := ea_1_i hs hA
    cases hk
    obtain ⟨ρ', p1, p2⟩ := es_lin_ok hb hl hs' (v := .inl (-x1)) (w := 0) (by decide) rfl (ev_neg hx) (fun g1 g2 => Jvm.Kit.i32_neg (by have g2 : -x1.toInt ≤ 2147483647 := g2; omega))
    exact ⟨_, ρ', rfl, p1, p2⟩
  · obtain ⟨x1, x2, X, Y, S, r, rfl, hx, hy, hs', hk⟩ := ea_2_i hs hA
    obtain ⟨h0, ρ', p1, p2⟩ := es_op_i hb hl hs' hx hy hk
    exact ⟨_, ρ', rfl, p1, p2⟩
  · obtain ⟨x1, x2, X, Y, S, r, rfl, hx, hy, hs', hk⟩ := ea_2_i hs hA
    obtain ⟨h0, ρ', p1, p2⟩ := es_op_i hb hl hs' hx hy hk
    exact ⟨_, ρ', rfl, p1, p2⟩
  · obtain ⟨x1, x2, X, Y, S, r, rfl, hx, hy, hs', hk⟩ := ea_2_i hs hA
    obtain ⟨h0, ρ', p1, p2⟩ := es_op_i hb hl hs' hx hy hk
    exact ⟨_, ρ', rfl, p1, p2⟩
  · obtain ⟨x1, x2, X, Y, S, r, rfl, hx, hy, hs', hk⟩ := ea_2_i hs hA
    obtain ⟨h0, ρ', p1, p2⟩ := es_op_i hb hl hs' hx hy hk
    exact ⟨_, ρ', rfl, p1, p2⟩
  · obtain ⟨x1, x2, X, Y, S, r, rfl, hx, hy, hs', hk⟩ := ea_2_i hs hA
    obtain ⟨h0, ρ', p1, p2⟩ := es_op_i hb hl hs' hx hy hk
    exact ⟨_, ρ', rfl, p1, p2⟩
  · obtain ⟨x1, x2, X, Y, S, r, rfl, hx, hy, hs', hk⟩ := ea_2_i hs hA
    obtain ⟨h0, ρ', p1, p2⟩ := es_op_i hb hl hs' hx hy hk
    exact ⟨_, ρ', rfl, p1, p2⟩
  · obtain ⟨x1, x2, X, Y, S, r, rfl, hx, hy, hs', hk⟩ := ea_2_l hs hA
    cases hk
    obtain ⟨ρ', p1, p2⟩ := es_lin_ok hb hl hs' (v := .inr (.inl (x1 + x2))) (w := 1) (by decide) rfl (ev_add hx hy) (fun g1 g2 => Jvm.Kit.i64_add (by have g1 : -9223372036854775808 ≤ x1.toInt + x2.toInt := g1; omega) (by have g2 : x1.toInt + x2.toInt ≤ 9223372036854775807 := g2; omega))
    exact ⟨_, ρ', rfl, p1, p2⟩
  · obtain ⟨x1, x2, X, Y, S, r, rfl, hx, hy, hs', hk⟩ := ea_2_l hs hA
    cases hk
    obtain ⟨ρ', p1, p2⟩ := es_lin_ok hb hl hs' (v := .inr (.inl (x1 - x2))) (w := 1) (by decide) rfl (ev_sub hx hy) (fun g1 g2 => Jvm.Kit.i64_sub (by have g1 : -9223372036854775808 ≤ x1.toInt - x2.toInt := g1; omega) (by have g2 : x1.toInt - x2.toInt ≤ 9223372036854775807 := g2; omega))
    exact ⟨_, ρ', rfl, p1, p2⟩
  · obtain ⟨x1, x2, X, Y, S, r, rfl, hx, hy, hs', hk⟩ := ea_2_l hs hA
    obtain ⟨ρ', p1, p2⟩ := es_mul_l hb hl hs' hx hy hk
    exact ⟨_, ρ', rfl, p1, p2⟩
  · obtain ⟨x1, x2, X, Y, S, r, rfl, hx, hy, hs', hk⟩ := ea_2_l hs hA
    obtain ⟨h0, ρ', p1, p2⟩ := es_op_l hb hl hs' (by decide) hx hy hk
    refine ⟨_, ρ', ?_, p1, p2⟩
    show (if x2 = 0 then none else some (.inr (.inl (x1 / x2)) :: r)) = _
    rw [if_neg (h0 (Or.inl rfl))]
    rfl
  · obtain ⟨x1, x2, X, Y, S, r, rfl, hx, hy, hs', hk⟩ := ea_2_l hs hA
    obtain ⟨h0, ρ', p1, p2⟩ := es_op_l hb hl hs' (by decide) hx hy hk
    refine ⟨_, ρ', ?_, p1, p2⟩
    show (if x2 = 0 then none else some (.inr (.inl (x1 - x1 / x2 * x2)) :: r)) = _
    rw [if_neg (h0 (Or.inr rfl))]
    rfl
  · obtain ⟨x1, X, S, r, rfl, hx, hs', hk⟩ := ea_1_l hs hA
    cases hk
    obtain ⟨ρ', p1, p2⟩ := es_lin_ok hb hl hs' (v := .inr (.inl (-x1))) (w := 1) (by decide) rfl (ev_neg hx) (fun g1 g2 => Jvm.Kit.i64_neg (by have g2 : -x1.toInt ≤ 9223372036854775807 := g2; omega))
    exact ⟨_, ρ', rfl, p1, p2⟩
  · obtain ⟨x1, x2, X, Y, S, r, rfl, hx, hy, hs', hk⟩ := ea_2_l hs hA
    rw [ea_ft_eq] at hk
    cases hk
    refine ⟨_, ρ, rfl, List.prefix_rfl, hb, hl, ?_, hs'⟩
    unfold v_R
    rw [if_pos rfl]
    exact ⟨_, rfl, _, ev_sub hx hy, lg_cmp_v x1 x2⟩
  · obtain ⟨x1, X, S, r, rfl, hx, hs', hk⟩ := ea_1_i hs hA
    cases hk
    refine ⟨_, ρ, rfl, List.prefix_rfl, hb, hl, v_R_mk (v := .inr (.inl x1.toInt64)) rfl ?_, hs'⟩
    show ev_t ρ X (x1.toInt64).toInt
    rw [Jvm.Kit.i64_of_i32]
    exact hx
  · obtain ⟨x1, X, S, r, rfl, hx, hs', hk⟩ := ea_1_l hs hA
    cases hk
    have u := Int32.toInt_lt x1.toInt32
    obtain ⟨ρ', p1, p2⟩ := ah_nr_ok hb hl hs' (v := .inl x1.toInt32) (lo := -2147483648) (hi := 2147483647) hx rfl (fun g1 g2 => Jvm.Kit.i32_of_i64 (by omega) (by omega)) ⟨Int32.le_toInt _, by show x1.toInt32.toInt ≤ 2147483647; omega⟩
    exact ⟨_, ρ', rfl, p1, p2⟩
  · obtain ⟨x1, X, S, r, rfl, hx, hs', hk⟩ := ea_1_i hs hA
    cases hk
    have u := Int8.toInt_lt x1.toInt8
    have l := Int8.le_toInt x1.toInt8
    have e : (x1.toInt8.toInt32).toInt = x1.toInt8.toInt := Int8.toInt_toInt32 _
    obtain ⟨ρ', p1, p2⟩ := ah_nr_ok hb hl hs' (v := .inl x1.toInt8.toInt32) (lo := -128) (hi := 127) hx rfl (fun g1 g2 => by
      show (x1.toInt8.toInt32).toInt = _
      rw [e, Int32.toInt_toInt8, Int.bmod_def]
      omega) (by show -128 ≤ (x1.toInt8.toInt32).toInt ∧ (x1.toInt8.toInt32).toInt ≤ 127; omega)
    exact ⟨_, ρ', rfl, p1, p2⟩
  · obtain ⟨x1, X, S, r, rfl, hx, hs', hk⟩ := ea_1_i hs hA
    cases hk
    have e1 : (x1.toUInt32 % 65536).toInt32.toBitVec.toNat = x1.toBitVec.toNat % 65536 := rfl
    have e2 := eo_p32 (x := (x1.toUInt32 % 65536).toInt32) e1 (by omega)
    have n1 := eo_n32 x1
    obtain ⟨ρ', p1, p2⟩ := ah_nr_ok hb hl hs' (v := .inl (x1.toUInt32 % 65536).toInt32) (lo := 0) (hi := 65535) hx rfl (fun g1 g2 => by
      show ((x1.toUInt32 % 65536).toInt32).toInt = _
      omega) (by show 0 ≤ ((x1.toUInt32 % 65536).toInt32).toInt ∧ ((x1.toUInt32 % 65536).toInt32).toInt ≤ 65535; omega)
    exact ⟨_, ρ', rfl, p1, p2⟩
  · split at hA
    · next a S heq =>
      split at hA
      · cases hA
      · next ha =>
        cases hA
        rw [heq] at hs
        obtain ⟨v, r, rfl, g1, g2⟩ := s_R_cons hs
        have hp := pc2_ct g1 (fun e => ha (by rw [e]; rfl))
        refine ⟨v :: v :: r, ρ, ?_, List.prefix_rfl, hb, hl, g1, g1, g2⟩
        show (if pc2 v then none else some (v :: v :: r)) = _
        rw [hp]
        rfl
    · cases hA
  · split at hA
    · next a b S heq =>
      split at hA
      · cases hA
      · next ha =>
        cases hA
        rw [heq] at hs
        obtain ⟨v, r, rfl, g1, g2⟩ := s_R_cons hs
        obtain ⟨w, r, rfl, g3, g4⟩ := s_R_cons g2
        have hp := pc2_ct g1 (fun e => ha (by rw [e]; rfl))
        have hq := pc2_ct g3 (fun e => ha (by rw [e, Bool.or_eq_true]; exact Or.inr rfl))
        refine ⟨v :: w :: v :: w :: r, ρ, ?_, List.prefix_rfl, hb, hl, g1, g3, g1, g3, g4⟩
        show (if pc2 v || pc2 w then none else some (v :: w :: v :: w :: r)) = _
        rw [hp, hq]
        rfl
    · cases hA
  · split at hA
    · next a S heq =>
      split at hA
      · cases hA
      · next ha =>
        cases hA
        rw [heq] at hs
        obtain ⟨v, r, rfl, g1, g2⟩ := s_R_cons hs
        have hp := pc2_ct g1 (fun e => ha (by rw [e]; rfl))
        refine ⟨_, ρ, ?_, List.prefix_rfl, hb, hl, g2⟩
        show (if pc2 v then none else some r) = _
        rw [hp]
        rfl
    · cases hA
  · exact ah_get_ok hb hl hs hA
  · exact ah_len_ok hb hl hs hA
  · obtain ⟨i, k, t, r, ρ', rfl, q1, q2, p1, p2⟩ := ah_ald_ok hb hl hs hA (fun k j => .inl (h.2.2.2.1 k j)) (fun k t j g1 g2 => by
      refine ⟨?_, (hb.2.2.2.2.1 k _ g1).2.1 (Or.inl rfl) j g2⟩
      unfold h_c
      rw [g1]
      rfl) (fun _ _ => rfl)
    refine ⟨_, ρ', ?_, p1, p2⟩
    show px_iald eL none h (.inl i :: .inr (.inr (some k)) :: r) = _
    unfold px_iald
    dsimp only
    rw [if_neg (eL_ne q1), q1]
    dsimp only
    rw [if_pos rfl, if_neg q2]
  · obtain ⟨i, k, t, r, ρ', rfl, q1, q2, p1, p2⟩ := ah_ald_ok hb hl hs hA (fun k j => .inl (h.2.2.2.1 k j)) (fun k t j g1 g2 => by
      refine ⟨?_, (hb.2.2.2.2.1 k _ g1).2.1 (Or.inr rfl) j g2⟩
      unfold h_c
      rw [g1]
      rfl) (fun _ _ => rfl)
    refine ⟨_, ρ', ?_, p1, p2⟩
    show px_bald eL h (.inl i :: .inr (.inr (some k)) :: r) = _
    unfold px_bald
    dsimp only
    rw [q1]
    dsimp only
    rw [if_pos rfl, if_neg q2]
  · obtain ⟨i, k, t, r, ρ', rfl, q1, q2, p1, p2⟩ := ah_ald_ok hb hl hs hA (fun k j => .inr (.inl (h.2.2.2.2.1 k j))) (fun k t j g1 g2 => by
      refine ⟨?_, (hb.2.2.2.2.1 k _ g1).2.2.1 rfl j g2⟩
      unfold h_c
      rw [g1]
      rfl) (fun _ _ => rfl)
    refine ⟨_, ρ', ?_, p1, p2⟩
    show px_lald eL h (.inl i :: .inr (.inr (some k)) :: r) = _
    unfold px_lald
    dsimp only
    rw [q1]
    dsimp only
    rw [if_pos rfl, if_neg q2]
  · obtain ⟨i, k, t, r, ρ', rfl, q1, q2, p1, p2⟩ := ah_ald_ok hb hl hs hA (fun k j => .inr (.inr (h.2.2.2.2.2 k j))) (fun k t j g1 g2 => by
      refine ⟨?_, (hb.2.2.2.2.1 k _ g1).2.2.2 rfl j g2⟩
      unfold h_c
      rw [g1]
      rfl) (fun _ _ => rfl)
    refine ⟨_, ρ', ?_, p1, p2⟩
    show px_aald eL h (.inl i :: .inr (.inr (some k)) :: r) = _
    unfold px_aald
    dsimp only
    rw [q1]
    dsimp only
    rw [if_pos rfl, if_neg q2]
  · split at hA
    · next hc =>
      rw [Bool.and_eq_true] at hc
      have h1 := ea_d_ok hb hd hc.1
      have h8 : px_sum st ≤ 8 := by rw [es_sum_ok hs]; exact Nat.le_of_ble_eq_true hc.2
      show ∃ st2 ρ', (if 1 ≤ d ∧ px_sum st ≤ 8 then (if x = 2 then px_u2 xe_max st else if x = 3 then px_u2 xe_min st else if x = 4 then px_m1 xe_abs st else none) else none) = some st2 ∧ _
      rw [if_pos ⟨h1, h8⟩]
      split at hA
      · exact ah_mx_ok hr hA
      · exact ah_mx_ok hr hA
      · exact ah_ab_l hr hA
      · cases hA
    · cases hA
  · cases hA
