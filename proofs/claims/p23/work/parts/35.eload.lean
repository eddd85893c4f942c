/-! the reckoner with bounds: what is read, and what else only changes the stack -/
theorem es_mul_i {c : eX} {ρ : List Int} {A A' : eS} {lv : List (Nat × pv)} {h : pH} {S : List eV} {r : List pv} (hb : b_R c ρ A h) (hl : l_R ρ A.2.2.2.2.1 lv) (hs : s_R ρ S r) {X Y : eT} {x y : Int32} (hx : ev_t ρ X x.toInt) (hy : ev_t ρ Y y.toInt) (hA : es_mul A 0 X Y S = some A') : ∃ ρ', ρ <+: ρ' ∧ r_R c ρ' A' lv (.inl (x * y) :: r) h := by
  unfold es_mul at hA
  split at hA
  · next hX =>
    cases hA
    have e : x.toInt = X.1 := by
      have : X = (X.1, []) := Prod.ext rfl hX
      rw [this] at hx
      exact ev_c_iff hx
    refine es_lin_ok hb hl hs (v := .inl (x * y)) (by decide) rfl (ev_sc X.1 hy) (fun h1 h2 => ?_)
    have h1 : -2147483648 ≤ X.1 * y.toInt := h1
    have h2 : X.1 * y.toInt ≤ 2147483647 := h2
    show (x * y).toInt = _
    rw [Jvm.Kit.i32_mul (by rw [e]; omega) (by rw [e]; omega), e]
  · split at hA
    · next hY =>
      cases hA
      have e : y.toInt = Y.1 := by
        have : Y = (Y.1, []) := Prod.ext rfl hY
        rw [this] at hy
        exact ev_c_iff hy
      refine es_lin_ok hb hl hs (v := .inl (x * y)) (by decide) rfl (ev_sc Y.1 hx) (fun h1 h2 => ?_)
      have h1 : -2147483648 ≤ Y.1 * x.toInt := h1
      have h2 : Y.1 * x.toInt ≤ 2147483647 := h2
      show (x * y).toInt = _
      rw [Int.mul_comm] at h1 h2
      rw [Jvm.Kit.i32_mul (by rw [e]; omega) (by rw [e]; omega), e, Int.mul_comm]
    · exact (es_op_i hb hl hs hx hy hA).2
theorem es_mul_l {c : eX} {ρ : List Int} {A A' : eS} {lv : List (Nat × pv)} {h : pH} {S : List eV} {r : List pv} (hb : b_R c ρ A h) (hl : l_R ρ A.2.2.2.2.1 lv) (hs : s_R ρ S r) {X Y : eT} {x y : Int64} (hx : ev_t ρ X x.toInt) (hy : ev_t ρ Y y.toInt) (hA : es_mul A 1 X Y S = some A') : ∃ ρ', ρ <+: ρ' ∧ r_R c ρ' A' lv (.inr (.inl (x * y)) :: r) h := by
  unfold es_mul at hA
  split at hA
  · next hX =>
    cases hA
    have e : x.toInt = X.1 := by
      have : X = (X.1, []) := Prod.ext rfl hX
      rw [this] at hx
      exact ev_c_iff hx
    refine es_lin_ok hb hl hs (v := .inr (.inl (x * y))) (by decide) rfl (ev_sc X.1 hy) (fun h1 h2 => ?_)
    have h1 : -9223372036854775808 ≤ X.1 * y.toInt := h1
    have h2 : X.1 * y.toInt ≤ 9223372036854775807 := h2
    show (x * y).toInt = _
    rw [Jvm.Kit.i64_mul (by rw [e]; omega) (by rw [e]; omega), e]
  · split at hA
    · next hY =>
      cases hA
      have e : y.toInt = Y.1 := by
        have : Y = (Y.1, []) := Prod.ext rfl hY
        rw [this] at hy
        exact ev_c_iff hy
      refine es_lin_ok hb hl hs (v := .inr (.inl (x * y))) (by decide) rfl (ev_sc Y.1 hx) (fun h1 h2 => ?_)
      have h1 : -9223372036854775808 ≤ Y.1 * x.toInt := h1
      have h2 : Y.1 * x.toInt ≤ 9223372036854775807 := h2
      show (x * y).toInt = _
      rw [Int.mul_comm] at h1 h2
      rw [Jvm.Kit.i64_mul (by rw [e]; omega) (by rw [e]; omega), e, Int.mul_comm]
    · exact (es_op_l hb hl hs (by decide) hx hy hA).2
/-! fields -/
def e_tag (x y : Nat) : Nat := match xk_ty x y with
  | .long => 1
  | .object _ | .array _ => 2
  | _ => 0
theorem e_tag_ok (h : pH) (x k y : Nat) : ct (pF h x k y) = e_tag x y := by
  unfold pF e_tag
  generalize xk_ty x y = t
  cases t <;> rfl
def er_cls (x : Nat) (rs : List Nat) : Bool := rs.all (fun k => match eL[k]? with
  | some t => Nat.beq t.1 0 && Nat.beq t.2 x
  | none => false)
theorem er_cls_ok {x : Nat} {rs : List Nat} (h : er_cls x rs = true) {k : Nat} (hk : k ∈ rs) : eL[k]? = some (0, x) := by
  have h1 := List.all_eq_true.mp h k hk
  cases ht : eL[k]? with
  | none =>
    rw [ht] at h1
    cases h1
  | some t =>
    rw [ht] at h1
    dsimp only at h1
    rw [Bool.and_eq_true] at h1
    rw [show t = (0, x) from Prod.ext (Nat.eq_of_beq_eq_true h1.1) (Nat.eq_of_beq_eq_true h1.2)]
/-- what is read is kept as a fact -/
def es_rd (A : eS) (k y : Nat) (i : eT) (n : Nat) (e : eE) (S : List eV) : eS := es_S (es_F (ea_val A n e).2 ((k, y, i, (ea_val A n e).1) :: (ea_val A n e).2.2.2.2.1)) ((ea_val A n e).1 :: S)
theorem es_rd_ok {c : eX} {ρ : List Int} {A : eS} {lv : List (Nat × pv)} {h : pH} {S : List eV} {r : List pv} (hb : b_R c ρ A h) (hl : l_R ρ A.2.2.2.2.1 lv) (hs : s_R ρ S r) {k y : Nat} {i : eT} {j : Int} {n : Nat} {e : eE} {v : pv} (hj : ev_t ρ i j) (hc : h_c h k y j = some v) (hn : ct v = n) (hx : ok_v (cv v) e) : ∃ ρ', ρ <+: ρ' ∧ r_R c ρ' (es_rd A k y i n e S) lv (v :: r) h := by
  obtain ⟨ρ', h1, h2, h3, h4, h5⟩ := ea_val_ok hb n hx
  have e1 : (ea_val A n e).1 = (n, (ea_val A n e).1.2) := Prod.ext h3 rfl
  have hv : v_R ρ' (ea_val A n e).1 v := by
    rw [e1]
    exact v_R_mk hn h4
  refine ⟨ρ', h1, ⟨h2.1, h2.2.1, h2.2.2.1, ?_, h2.2.2.2.2⟩, ?_, hv, s_R_mono h1 hs⟩
  · intro f hf
    rcases List.mem_cons.mp hf with rfl | hf
    · exact ⟨j, v, ev_t_mono h1 hj, hc, hv⟩
    · exact h2.2.2.2.1 f hf
  · show l_R ρ' (ea_val A n e).2.2.2.2.2.1 lv
    rw [h5]
    exact l_R_mono h1 hl
def ah_get (G : Nat → eE) (A : eS) (x y : Nat) (S : List eV) : Option eS := match S with
  | a :: r => if Nat.ble (y + 1) (pnf x) then (match er_rl A a with
    | [] => none
    | [k] => if er_cls x [k] then (match ef_g A.2.2.2.1 k y (0, []) with
      | some v => some (es_S A (v :: r))
      | none => some (es_rd A k y (0, []) (e_tag x y) (G (cn k + y)) r)) else none
    | rs => if er_cls x rs then e_js (fun k => G (cn k + y)) rs (fun e => some (es_pv A (e_tag x y) e r)) else none) else none
  | _ => none
theorem ah_get_ok {c : eX} {ρ : List Int} {A A' : eS} {lv : List (Nat × pv)} {h : pH} {S : List eV} {st : List pv} (hb : b_R c ρ A h) (hl : l_R ρ A.2.2.2.2.1 lv) (hs : s_R ρ S st) {x y : Nat} (hA : ah_get c.1 A x y S = some A') : ∃ st2 ρ', px_get eL h x y st = some st2 ∧ ρ <+: ρ' ∧ r_R c ρ' A' lv st2 h := by
  unfold ah_get at hA
  split at hA
  · next a S' =>
    split at hA
    · next hy =>
      have hy : y < pnf x := Nat.le_of_ble_eq_true hy
      obtain ⟨v, r, rfl, g1, g2⟩ := s_R_cons hs
      have key : ∀ k, k ∈ er_rl A a → er_cls x (er_rl A a) = true → px_get eL h x y (.inr (.inr (some k)) :: r) = some (pF h x k y :: r) ∧ h_c h k y 0 = some (pF h x k y) ∧ ok_v (cv (pF h x k y)) (c.1 (cn k + y)) := by
        intro k hk hcl
        have he := er_cls_ok hcl hk
        refine ⟨?_, ?_, (hb.2.2.2.2.1 k _ he).1 rfl y hy⟩
        · show (if eL[k]? = some (0, x) then some (pF h x k y :: r) else none) = _
          rw [if_pos he]
        · unfold h_c
          rw [he]
          dsimp only
          rw [if_pos hy]
          rfl
      split at hA
      · cases hA
      · next k hr =>
        split at hA
        · next hcl =>
          rw [← hr] at hcl
          obtain ⟨k', rfl, hk'⟩ := er_rl_ok hb g1 (by rw [hr]; exact fun e => by cases e)
          obtain ⟨q1, q2, q3⟩ := key k' hk' hcl
          have : k' = k := by rw [hr] at hk'; exact List.mem_singleton.mp hk'
          subst this
          split at hA
          · next w hw =>
            cases hA
            exact ⟨_, ρ, q1, List.prefix_rfl, hb, hl, ef_g_R hb.2.2.2.1 hw (ev_c 0) q2, g2⟩
          · cases hA
            obtain ⟨ρ', p1, p2⟩ := es_rd_ok hb hl g2 (ev_c 0) q2 (e_tag_ok h x k' y) q3
            exact ⟨_, ρ', q1, p1, p2⟩
        · cases hA
      · next hr0 hr1 =>
        split at hA
        · next hcl =>
          rw [e_js_eq] at hA
          cases hA
          obtain ⟨k', rfl, hk'⟩ := er_rl_ok hb g1 hr0
          obtain ⟨q1, q2, q3⟩ := key k' hk' hcl
          obtain ⟨ρ', p1, p2⟩ := es_pv_ok hb hl g2 (e_tag_ok h x k' y) (e_j1_ok (fun k => c.1 (cn k + y)) hk' q3)
          exact ⟨_, ρ', q1, p1, p2⟩
        · cases hA
    · cases hA
  · cases hA
/-! rows -/
def er_row (kd : Nat) (env : List (Nat × eE)) (C : List eT) (i : eT) (rs : List Nat) : Bool := ea_isge env C i 0 && rs.all (fun k => match eL[k]? with
  | some t => Nat.beq t.1 kd && ea_isle env C i ((t.2 : Int) - 1)
  | none => false)
theorem er_row_ok {ρ : List Int} {kd : Nat} {env : List (Nat × eE)} {C : List eT} {i : eT} {rs : List Nat} (he : ok_e ρ env) (hc : ok_c ρ C) (h : er_row kd env C i rs = true) {x : Int} (hi : ev_t ρ i x) {k : Nat} (hk : k ∈ rs) : ∃ n, eL[k]? = some (kd, n) ∧ 0 ≤ x ∧ x.toNat < n := by
  unfold er_row at h
  rw [Bool.and_eq_true] at h
  have h0 := ea_isge_ok he hc h.1 hi
  have h1 := List.all_eq_true.mp h.2 k hk
  cases ht : eL[k]? with
  | none =>
    rw [ht] at h1
    cases h1
  | some t =>
    rw [ht] at h1
    dsimp only at h1
    rw [Bool.and_eq_true] at h1
    have h2 := ea_isle_ok he hc h1.2 hi
    refine ⟨t.2, ?_, h0, by omega⟩
    rw [show t = (kd, t.2) from Prod.ext (Nat.eq_of_beq_eq_true h1.1) rfl]
theorem eL_1000 : eL[1000]? = none := by decide +kernel
theorem eL_ne {k : Nat} {t : Nat × Nat} (h : eL[k]? = some t) : k ≠ 1000 := fun e => by
  rw [e, eL_1000] at h
  cases h
theorem e_clamp {i : Int32} {n : Nat} (h0 : 0 ≤ i.toInt) (h1 : i.toInt.toNat < n) : ¬ (i < 0 ∨ n ≤ i.toNatClampNeg) := by
  rintro (h | h)
  · have := Int32.lt_iff_toInt_lt.mp h
    rw [Int32.toInt_zero] at this
    omega
  · have h : n ≤ i.toInt.toNat := h
    omega
def ah_ald (G : Nat → eE) (kd n : Nat) (A : eS) (S : List eV) : Option eS := match S with
  | i :: a :: r => if Nat.beq i.1 0 then (match er_rl A a with
    | [] => none
    | [k] => if er_row kd A.2.1 A.2.2.1 i.2 [k] then (match ef_g A.2.2.2.1 k 0 i.2 with
      | some v => some (es_S A (v :: r))
      | none => some (es_rd A k 0 i.2 n (G (cn k)) r)) else none
    | rs => if er_row kd A.2.1 A.2.2.1 i.2 rs then e_js (fun k => G (cn k)) rs (fun e => some (es_pv A n e r)) else none) else none
  | _ => none
theorem ah_ald_ok {c : eX} {ρ : List Int} {A A' : eS} {lv : List (Nat × pv)} {h : pH} {S : List eV} {st : List pv} (hb : b_R c ρ A h) (hl : l_R ρ A.2.2.2.2.1 lv) (hs : s_R ρ S st) {kd n : Nat} (hA : ah_ald c.1 kd n A S = some A')
    (f : Nat → Nat → pv) (f1 : ∀ (k t j : Nat), eL[k]? = some (kd, t) → j < t → h_c h k 0 (j : Int) = some (f k j) ∧ ok_v (cv (f k j)) (c.1 (cn k))) (f2 : ∀ (k j : Nat), ct (f k j) = n) : ∃ (i : Int32) (k t : Nat) (r : List pv) (ρ' : List Int), st = .inl i :: .inr (.inr (some k)) :: r ∧ eL[k]? = some (kd, t) ∧ ¬ (i < 0 ∨ t ≤ i.toNatClampNeg) ∧ ρ <+: ρ' ∧ r_R c ρ' A' lv (f k i.toNatClampNeg :: r) h := by
  unfold ah_ald at hA
  split at hA
  · next i0 a S' =>
    split at hA
    · next hi0 =>
      obtain ⟨v, r1, rfl, g1, g2⟩ := s_R_cons hs
      obtain ⟨w, r, rfl, g3, g4⟩ := s_R_cons g2
      obtain ⟨i, rfl, hi⟩ := v_R_i (Nat.eq_of_beq_eq_true hi0) g1
      have key : ∀ k, k ∈ er_rl A a → er_row kd A.2.1 A.2.2.1 i0.2 (er_rl A a) = true → ∃ t, eL[k]? = some (kd, t) ∧ ¬ (i < 0 ∨ t ≤ i.toNatClampNeg) ∧ h_c h k 0 i.toInt = some (f k i.toNatClampNeg) ∧ ok_v (cv (f k i.toNatClampNeg)) (c.1 (cn k)) := by
        intro k hk hr
        obtain ⟨t, q1, q2, q3⟩ := er_row_ok hb.2.1 hb.2.2.1 hr hi hk
        have q4 := f1 k t i.toInt.toNat q1 q3
        rw [show ((i.toInt.toNat : Nat) : Int) = i.toInt by omega] at q4
        exact ⟨t, q1, e_clamp q2 q3, q4.1, q4.2⟩
      split at hA
      · cases hA
      · next k hr =>
        split at hA
        · next hcl =>
          rw [← hr] at hcl
          obtain ⟨k', rfl, hk'⟩ := er_rl_ok hb g3 (by rw [hr]; exact fun e => by cases e)
          obtain ⟨t, q1, q2, q3, q4⟩ := key k' hk' hcl
          have : k' = k := by rw [hr] at hk'; exact List.mem_singleton.mp hk'
          subst this
          split at hA
          · next w hw =>
            cases hA
            exact ⟨i, k', t, r, ρ, rfl, q1, q2, List.prefix_rfl, hb, hl, ef_g_R hb.2.2.2.1 hw hi q3, g4⟩
          · cases hA
            obtain ⟨ρ', p1, p2⟩ := es_rd_ok hb hl g4 hi q3 (f2 k' _) q4
            exact ⟨i, k', t, r, ρ', rfl, q1, q2, p1, p2⟩
        · cases hA
      · next hr0 hr1 =>
        split at hA
        · next hcl =>
          rw [e_js_eq] at hA
          cases hA
          obtain ⟨k', rfl, hk'⟩ := er_rl_ok hb g3 hr0
          obtain ⟨t, q1, q2, q3, q4⟩ := key k' hk' hcl
          obtain ⟨ρ', p1, p2⟩ := es_pv_ok hb hl g4 (f2 k' _) (e_j1_ok (fun k => c.1 (cn k)) hk' q4)
          exact ⟨i, k', t, r, ρ', rfl, q1, q2, p1, p2⟩
        · cases hA
    · cases hA
  · cases hA
/-! lengths -/
def ah_len (A : eS) (S : List eV) : Option eS := match S with
  | a :: r => match er_rl A a with
    | [] => none
    | rs => if rs.all (fun k => match eL[k]? with
      | some t => Nat.ble 1 t.1 && Nat.ble t.1 4 && Nat.ble t.2 2147483647
      | none => false) then e_js (fun k => match eL[k]? with
      | some t => ((t.2 : Int), (t.2 : Int), [])
      | none => (0, 0, [])) rs (fun e => some (es_pv A 0 e r)) else none
  | _ => none
theorem ah_len_ok {c : eX} {ρ : List Int} {A A' : eS} {lv : List (Nat × pv)} {h : pH} {S : List eV} {st : List pv} (hb : b_R c ρ A h) (hl : l_R ρ A.2.2.2.2.1 lv) (hs : s_R ρ S st) (hA : ah_len A S = some A') : ∃ st2 ρ', px_alen eL none st = some st2 ∧ ρ <+: ρ' ∧ r_R c ρ' A' lv st2 h := by
  unfold ah_len at hA
  split at hA
  · next a S' =>
    obtain ⟨v, r, rfl, g1, g2⟩ := s_R_cons hs
    split at hA
    · cases hA
    · next hr0 =>
      split at hA
      · next hall =>
        rw [e_js_eq] at hA
        cases hA
        obtain ⟨k, rfl, hk⟩ := er_rl_ok hb g1 hr0
        have h1 := List.all_eq_true.mp hall k hk
        cases ht : eL[k]? with
        | none =>
          rw [ht] at h1
          cases h1
        | some t =>
          rw [ht] at h1
          dsimp only at h1
          rw [Bool.and_eq_true, Bool.and_eq_true] at h1
          obtain ⟨⟨h1, h2⟩, h3⟩ := h1
          have h1 := Nat.le_of_ble_eq_true h1
          have h2 := Nat.le_of_ble_eq_true h2
          have h3 := Nat.le_of_ble_eq_true h3
          have e1 : (nI t.2).toInt = (t.2 : Int) := nI_toInt (by omega)
          obtain ⟨ρ', p1, p2⟩ := es_pv_ok hb hl g2 (v := .inl (nI t.2)) rfl (e_j1_ok (fun k => match eL[k]? with
            | some t => ((t.2 : Int), (t.2 : Int), [])
            | none => (0, 0, [])) hk (by
              show ok_v (nI t.2).toInt (match eL[k]? with
                | some t => ((t.2 : Int), (t.2 : Int), [])
                | none => (0, 0, []))
              rw [ht, e1]
              exact ⟨Int.le_refl _, Int.le_refl _, Or.inl rfl⟩))
          refine ⟨_, ρ', ?_, p1, p2⟩
          unfold px_alen
          dsimp only
          rw [if_neg (eL_ne ht), ht]
          dsimp only
          rw [if_pos ⟨h1, h2⟩]
      · cases hA
  · cases hA
/-! depth, words of the stack -/
def ea_d (A : eS) (j m : Nat) : Bool := ea_isge A.2.1 A.2.2.1 (0, [(0, 1)]) ((j + m : Nat) : Int)
theorem ea_d_ok {c : eX} {ρ : List Int} {A : eS} {h : pH} (hb : b_R c ρ A h) {j m d : Nat} (hd : d + j = c.2.2.2.2) (hh : ea_d A j m = true) : m ≤ d := by
  have h1 := ea_isge_ok hb.2.1 hb.2.2.1 hh (ev_v hb.2.2.2.2.2.2.2)
  omega
def es_sum : List eV → Nat
  | [] => 0
  | a :: S => (match a.1 with
    | 1 => 2
    | _ => 1) + es_sum S
theorem es_sum_ok {ρ : List Int} : ∀ {S : List eV} {st : List pv}, s_R ρ S st → px_sum st = es_sum S
  | [], [], _ => rfl
  | a :: S, v :: st, h => by
    show (if pc2 v then 2 else 1) + px_sum st = (match a.1 with
      | 1 => 2
      | _ => 1) + es_sum S
    rw [es_sum_ok h.2]
    have h1 := h.1
    unfold v_R at h1
    split at h1
    · next h3 =>
      obtain ⟨x, rfl, -⟩ := h1
      rw [h3]
      rfl
    · rw [← h1.1]
      match v with
      | .inl x => rfl
      | .inr (.inl x) => rfl
      | .inr (.inr x) => rfl
theorem pc2_ct {ρ : List Int} {a : eV} {v : pv} (h : v_R ρ a v) (h1 : a.1 ≠ 1) : pc2 v = false := by
  unfold v_R at h
  split at h
  · obtain ⟨x, rfl, -⟩ := h
    rfl
  · match v, h with
    | .inl x, _ => rfl
    | .inr (.inl x), h => exact absurd h.1.symm h1
    | .inr (.inr x), _ => rfl
