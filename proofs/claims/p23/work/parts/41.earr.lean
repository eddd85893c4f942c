/-! the reckoner with bounds: stores into rows -/
theorem ef_dropa_ok {ρ : List Int} {F : List eF} {h h' : pH} {k : Nat} {rs : List Nat} (hF : f_F ρ F h) (hw : w_a h h' k) (hk : k ∈ rs) : f_F ρ (ef_dropa rs F) h' := by
  intro f hf
  obtain ⟨hm, hd⟩ := List.mem_filter.mp hf
  obtain ⟨j, z, e1, e2, e3⟩ := hF f hm
  refine ⟨j, z, e1, ?_, e3⟩
  rw [w_a_c hw]
  · exact e2
  · intro n1
    rw [Bool.not_eq_true'] at hd
    have : rs.any (fun k => Nat.beq f.1 k) = true := List.any_eq_true.mpr ⟨k, hk, by rw [n1]; exact Nat.beq_refl k⟩
    rw [this] at hd
    cases hd
def ah_ast (G : Nat → eE) (W DX : Nat) (kd n : Nat) (A : eS) : Option eS := match A.2.2.2.2.2 with
  | v :: i :: a :: S => match er_rl A a with
    | [] => none
    | rs => if Nat.beq i.1 0 && er_row kd A.2.1 A.2.2.1 i.2 rs && rs.all (e_w1 G W DX A v n 0) then xe_fl (ef_dropa rs A.2.2.2.1) (fun F => match rs with
        | [k] => some (es_S (es_F A ((k, 0, i.2, v) :: F)) S)
        | _ => some (es_S (es_F A F) S)) else none
  | _ => none
/-- a byte is cut: any byte, if it isn't one -/
def ah_bst (G : Nat → eE) (W DX : Nat) (A : eS) : Option eS := match A.2.2.2.2.2 with
  | v :: i :: a :: S => match er_rl A a with
    | [] => none
    | rs => if Nat.beq v.1 0 && Nat.beq i.1 0 && er_row 2 A.2.1 A.2.2.1 i.2 rs && rs.all (fun k => ea_le (G (cn k)).1 (-128) && ea_le 127 (G (cn k)).2.1 && (match (G (cn k)).2.2 with
      | [] => true
      | _ => false) && W.testBit (cn k) && !(DX.testBit (cn k))) then xe_fl (ef_dropa rs A.2.2.2.1) (fun F => some (es_S (es_F A F) S)) else none
  | _ => none
theorem b_R_a {c : eX} {DX : Nat} {ρ : List Int} {A : eS} {h h' : pH} {k : Nat} (hX : x_K c.2.1 DX) (hb : b_R c ρ A h) (hw : w_a h h' k) (hg : g_I c.1 h') (hW : c.2.2.2.1.testBit (cn k) = true) (hD : DX.testBit (cn k) = false) {F : List eF} (hF : f_F ρ F h') : b_R c ρ (es_F A F) h' :=
  ⟨hb.1, hb.2.1, hb.2.2.1, hF, hg, hX _ h h' (w_a_M hw (f_M_rf _ h) (one_bit (cn k))) (one_and hD) hb.2.2.2.2.2.1, w_a_M hw hb.2.2.2.2.2.2.1 hW, hb.2.2.2.2.2.2.2⟩
theorem pu_at {α : Type} (f : Nat → Nat → α) (k y : Nat) (z : α) : pu f k y z k y = z := if_pos ⟨rfl, rfl⟩
theorem pu_ne {α : Type} (f : Nat → Nat → α) {k y : Nat} (z : α) {k' : Nat} (hn : k' ≠ k) : pu f k y z k' = f k' := by
  funext j
  exact if_neg (fun e => hn e.1)
theorem pu_nj {α : Type} (f : Nat → Nat → α) {k y : Nat} (z : α) {k' j : Nat} (hn : j ≠ y) : pu f k y z k' j = f k' j := if_neg (fun e => hn e.2)
/-- a store into a row: mk the heap behind -/
theorem ah_ast_ok {c : eX} {DX : Nat} {ρ : List Int} {A A' : eS} {lv : List (Nat × pv)} {st : List pv} {h : pH} (hX : x_K c.2.1 DX) (hr : r_R c ρ A lv st h) {kd n : Nat} (hA : ah_ast c.1 c.2.2.2.1 DX kd n A = some A')
    (mk : Nat → Nat → pv → pH) (m1 : ∀ (k j t : Nat) (v : pv), eL[k]? = some (kd, t) → j < t → ct v = n → ok_v (cv v) (c.1 (cn k)) → w_a h (mk k j v) k ∧ g_I c.1 (mk k j v) ∧ h_c (mk k j v) k 0 (j : Int) = some v) :
    ∃ (v : pv) (i : Int32) (k t : Nat) (r : List pv), st = v :: .inl i :: .inr (.inr (some k)) :: r ∧ ct v = n ∧ eL[k]? = some (kd, t) ∧ ¬ (i < 0 ∨ t ≤ i.toNatClampNeg) ∧ r_R c ρ A' lv r (mk k i.toNatClampNeg v) := by
  obtain ⟨hb, hl, hs⟩ := hr
  unfold ah_ast at hA
  split at hA
  · next v i0 a S heq =>
    split at hA
    · cases hA
    · next hne =>
      split at hA
      · next hh =>
        rw [Bool.and_eq_true, Bool.and_eq_true] at hh
        obtain ⟨⟨h1, h2⟩, h3⟩ := hh
        rw [heq] at hs
        obtain ⟨v1, r1, rfl, g1, g2⟩ := s_R_cons hs
        obtain ⟨v2, r2, rfl, g3, g4⟩ := s_R_cons g2
        obtain ⟨v3, r, rfl, g5, g6⟩ := s_R_cons g4
        obtain ⟨i, rfl, hi⟩ := v_R_i (Nat.eq_of_beq_eq_true h1) g3
        obtain ⟨k, rfl, hk⟩ := er_rl_ok hb g5 hne
        obtain ⟨t, q1, q2, q3⟩ := er_row_ok hb.2.1 hb.2.2.1 h2 hi hk
        have hw := List.all_eq_true.mp h3 k hk
        unfold e_w1 at hw
        rw [Bool.and_eq_true, Bool.and_eq_true, Bool.not_eq_true'] at hw
        obtain ⟨⟨w1, w2⟩, w3⟩ := hw
        obtain ⟨z1, z2⟩ := ea_in_ok hb g1 w1
        obtain ⟨m2, m3, m4⟩ := m1 k i.toNatClampNeg t v1 q1 q3 z1 z2
        refine ⟨v1, i, k, t, r, rfl, z1, q1, e_clamp q2 q3, ?_⟩
        have hF := ef_dropa_ok hb.2.2.2.1 m2 hk
        rw [xe_fl_eq] at hA
        split at hA
        · next k0 hrs =>
          cases hA
          have e0 : k = k0 := by rw [hrs] at hk; exact List.mem_singleton.mp hk
          refine ⟨b_R_a hX hb m2 m3 w2 w3 (fun f hf => ?_), hl, g6⟩
          rcases List.mem_cons.mp hf with rfl | hf
          · refine ⟨i.toInt, v1, hi, ?_, g1⟩
            rw [← e0]
            rw [show ((i.toNatClampNeg : Nat) : Int) = i.toInt from by show ((i.toInt.toNat : Nat) : Int) = i.toInt; omega] at m4
            exact m4
          · exact hF f hf
        · cases hA
          exact ⟨b_R_a hX hb m2 m3 w2 w3 hF, hl, g6⟩
      · cases hA
  · cases hA
theorem w_a_i {h : pH} {k j : Nat} {z : Int32} : w_a h (h.1, h.2.1, h.2.2.1, pu h.2.2.2.1 k j z, h.2.2.2.2) k := ⟨⟨rfl, rfl, rfl⟩, fun k' hn => ⟨pu_ne _ _ hn, rfl, rfl⟩⟩
theorem w_a_l {h : pH} {k j : Nat} {z : Int64} : w_a h (h.1, h.2.1, h.2.2.1, h.2.2.2.1, pu h.2.2.2.2.1 k j z, h.2.2.2.2.2) k := ⟨⟨rfl, rfl, rfl⟩, fun k' hn => ⟨rfl, pu_ne _ _ hn, rfl⟩⟩
theorem g_I_i {G : Nat → eE} {h : pH} {k j : Nat} {z : Int32} (hg : g_I G h) (hz : ok_v z.toInt (G (cn k))) {kd t : Nat} (hk : eL[k]? = some (kd, t)) (hkd : kd = 1 ∨ kd = 2) : g_I G (h.1, h.2.1, h.2.2.1, pu h.2.2.2.1 k j z, h.2.2.2.2) := by
  refine g_I_a hg w_a_i (fun t' ht' => ?_)
  rw [hk] at ht'
  cases ht'
  refine ⟨fun h0 i hi => ?_, fun h0 => ?_, fun h0 => ?_⟩
  · by_cases e : i = j
    · subst e
      show ok_v (pu h.2.2.2.1 k i z k i).toInt _
      rw [pu_at]
      exact hz
    · show ok_v (pu h.2.2.2.1 k j z k i).toInt _
      rw [pu_nj _ _ e]
      exact (hg k _ hk).2.1 h0 i hi
  · have h0 : kd = 3 := h0
    omega
  · have h0 : kd = 4 := h0
    omega
theorem g_I_l {G : Nat → eE} {h : pH} {k j : Nat} {z : Int64} (hg : g_I G h) (hz : ok_v z.toInt (G (cn k))) {t : Nat} (hk : eL[k]? = some (3, t)) : g_I G (h.1, h.2.1, h.2.2.1, h.2.2.2.1, pu h.2.2.2.2.1 k j z, h.2.2.2.2.2) := by
  refine g_I_a hg w_a_l (fun t' ht' => ?_)
  rw [hk] at ht'
  cases ht'
  refine ⟨fun h0 => ?_, fun h0 i hi => ?_, fun h0 => ?_⟩
  · have h0 : 3 = 1 ∨ 3 = 2 := h0
    omega
  · by_cases e : i = j
    · subst e
      show ok_v (pu h.2.2.2.2.1 k i z k i).toInt _
      rw [pu_at]
      exact hz
    · show ok_v (pu h.2.2.2.2.1 k j z k i).toInt _
      rw [pu_nj _ _ e]
      exact (hg k _ hk).2.2.1 h0 i hi
  · have h0 : 3 = 4 := h0
    omega
theorem ah_iast_ok {c : eX} {DX : Nat} {ρ : List Int} {A A' : eS} {lv : List (Nat × pv)} {st : List pv} {h : pH} (hX : x_K c.2.1 DX) (hr : r_R c ρ A lv st h) (hA : ah_ast c.1 c.2.2.2.1 DX 1 0 A = some A') : ∃ w, px_iast eL h st = some w ∧ r_R c ρ A' lv w.1 w.2 := by
  obtain ⟨v, i, k, t, r, rfl, z1, q1, q2, q3⟩ := ah_ast_ok hX hr hA (fun k j v => match v with
    | .inl z => (h.1, h.2.1, h.2.2.1, pu h.2.2.2.1 k j z, h.2.2.2.2)
    | _ => h) (fun k j t v g1 g2 g3 g4 => by
      match v, g3, g4 with
      | .inl z, _, g4 =>
        refine ⟨w_a_i, g_I_i hr.1.2.2.2.2.1 g4 g1 (Or.inl rfl), ?_⟩
        unfold h_c
        rw [g1]
        show some (Sum.inl (pu h.2.2.2.1 k j z k j)) = _
        rw [pu_at])
  match v, z1, q3 with
  | .inl z, _, q3 =>
    refine ⟨(r, (h.1, h.2.1, h.2.2.1, pu h.2.2.2.1 k i.toNatClampNeg z, h.2.2.2.2)), ?_, q3⟩
    unfold px_iast
    dsimp only
    rw [q1]
    dsimp only
    rw [if_pos rfl, if_neg q2]
theorem ah_last_ok {c : eX} {DX : Nat} {ρ : List Int} {A A' : eS} {lv : List (Nat × pv)} {st : List pv} {h : pH} (hX : x_K c.2.1 DX) (hr : r_R c ρ A lv st h) (hA : ah_ast c.1 c.2.2.2.1 DX 3 1 A = some A') : ∃ w, px_last eL h st = some w ∧ r_R c ρ A' lv w.1 w.2 := by
  obtain ⟨v, i, k, t, r, rfl, z1, q1, q2, q3⟩ := ah_ast_ok hX hr hA (fun k j v => match v with
    | .inr (.inl z) => (h.1, h.2.1, h.2.2.1, h.2.2.2.1, pu h.2.2.2.2.1 k j z, h.2.2.2.2.2)
    | _ => h) (fun k j t v g1 g2 g3 g4 => by
      match v, g3, g4 with
      | .inr (.inl z), _, g4 =>
        refine ⟨w_a_l, g_I_l hr.1.2.2.2.2.1 g4 g1, ?_⟩
        unfold h_c
        rw [g1]
        show some (Sum.inr (Sum.inl (pu h.2.2.2.2.1 k j z k j))) = _
        rw [pu_at])
  match v, z1, q3 with
  | .inr (.inl z), _, q3 =>
    refine ⟨(r, (h.1, h.2.1, h.2.2.1, h.2.2.2.1, pu h.2.2.2.2.1 k i.toNatClampNeg z, h.2.2.2.2.2)), ?_, q3⟩
    unfold px_last
    dsimp only
    rw [q1]
    dsimp only
    rw [if_pos rfl, if_neg q2]
theorem i8_b (z : Int32) : -128 ≤ (z.toInt8.toInt32).toInt ∧ (z.toInt8.toInt32).toInt ≤ 127 := by
  have u := Int8.toInt_lt z.toInt8
  have l := Int8.le_toInt z.toInt8
  have e : (z.toInt8.toInt32).toInt = z.toInt8.toInt := Int8.toInt_toInt32 _
  omega
theorem ah_bast_ok {c : eX} {DX : Nat} {ρ : List Int} {A A' : eS} {lv : List (Nat × pv)} {st : List pv} {h : pH} (hX : x_K c.2.1 DX) (hr : r_R c ρ A lv st h) (hA : ah_bst c.1 c.2.2.2.1 DX A = some A') : ∃ w, px_bast eL h st = some w ∧ r_R c ρ A' lv w.1 w.2 := by
  obtain ⟨hb, hl, hs⟩ := hr
  unfold ah_bst at hA
  split at hA
  · next v i0 a S heq =>
    split at hA
    · cases hA
    · next hne =>
      split at hA
      · next hh =>
        rw [Bool.and_eq_true, Bool.and_eq_true, Bool.and_eq_true] at hh
        obtain ⟨⟨⟨h0, h1⟩, h2⟩, h3⟩ := hh
        rw [heq] at hs
        obtain ⟨v1, r1, rfl, g1, g2⟩ := s_R_cons hs
        obtain ⟨v2, r2, rfl, g3, g4⟩ := s_R_cons g2
        obtain ⟨v3, r, rfl, g5, g6⟩ := s_R_cons g4
        obtain ⟨z, rfl, -⟩ := v_R_i (Nat.eq_of_beq_eq_true h0) g1
        obtain ⟨i, rfl, hi⟩ := v_R_i (Nat.eq_of_beq_eq_true h1) g3
        obtain ⟨k, rfl, hk⟩ := er_rl_ok hb g5 hne
        obtain ⟨t, q1, q2, q3⟩ := er_row_ok hb.2.1 hb.2.2.1 h2 hi hk
        have hw := List.all_eq_true.mp h3 k hk
        rw [Bool.and_eq_true, Bool.and_eq_true, Bool.and_eq_true, Bool.and_eq_true, Bool.not_eq_true', ea_le_iff, ea_le_iff] at hw
        obtain ⟨⟨⟨⟨w1, w2⟩, w5⟩, w3⟩, w4⟩ := hw
        have hz := i8_b z
        have hok : ok_v (z.toInt8.toInt32).toInt (c.1 (cn k)) := by
          refine ⟨by omega, by omega, Or.inl ?_⟩
          split at w5
          · next e => exact e
          · cases w5
        rw [xe_fl_eq] at hA
        cases hA
        refine ⟨(r, (h.1, h.2.1, h.2.2.1, pu h.2.2.2.1 k i.toNatClampNeg z.toInt8.toInt32, h.2.2.2.2)), ?_, b_R_a hX hb w_a_i (g_I_i hb.2.2.2.2.1 hok q1 (Or.inr rfl)) w3 w4 (ef_dropa_ok hb.2.2.2.1 w_a_i hk), hl, g6⟩
        unfold px_bast
        dsimp only
        rw [q1]
        dsimp only
        rw [if_pos rfl, if_neg (e_clamp q2 q3)]
      · cases hA
  · cases hA
/-! arraycopy of ints -/
def ah_acp (G : Nat → eE) (W DX j : Nat) (A : eS) : Option eS := match A.2.2.2.2.2 with
  | n :: dp :: a :: sp :: a0 :: S => match er_rl A a with
    | [] => none
    | rs => match er_rl A a0 with
      | [] => none
      | rs0 => if Nat.beq n.1 0 && Nat.beq dp.1 0 && Nat.beq sp.1 0 && ea_d A j 1 && Nat.ble (es_sum S) 8 && ea_isge A.2.1 A.2.2.1 n.2 0 && ea_isge A.2.1 A.2.2.1 dp.2 0 && ea_isge A.2.1 A.2.2.1 sp.2 0
          && rs.all (fun k => (match eL[k]? with
            | some t => Nat.beq t.1 1 && ea_isle A.2.1 A.2.2.1 (ea_add dp.2 n.2) (t.2 : Int)
            | none => false) && W.testBit (cn k) && !(DX.testBit (cn k)))
          && rs0.all (fun k0 => (match eL[k0]? with
            | some t => Nat.beq t.1 1 && ea_isle A.2.1 A.2.2.1 (ea_add sp.2 n.2) (t.2 : Int)
            | none => false) && rs.all (fun k => ea_le (G (cn k)).1 (G (cn k0)).1 && ea_le (G (cn k0)).2.1 (G (cn k)).2.1 && (match (G (cn k)).2.2 with
              | [] => true
              | _ => false))) then xe_fl (ef_dropa rs A.2.2.2.1) (fun F => some (es_S (es_F A F) S)) else none
  | _ => none
theorem ah_acp_ok {c : eX} {DX j d : Nat} {ρ : List Int} {A A' : eS} {lv : List (Nat × pv)} {st : List pv} {h : pH} (hX : x_K c.2.1 DX) (hd : d + j = c.2.2.2.2) (hr : r_R c ρ A lv st h) (hA : ah_acp c.1 c.2.2.2.1 DX j A = some A') : ∃ w, px_acp eL d h st = some w ∧ r_R c ρ A' lv w.1 w.2 := by
  obtain ⟨hb, hl, hs⟩ := hr
  unfold ah_acp at hA
  split at hA
  · next n0 dp0 a sp0 a0 S heq =>
    split at hA
    · cases hA
    · next hne =>
      split at hA
      · cases hA
      · next hne0 =>
        split at hA
        · next hh =>
          simp only [Bool.and_eq_true] at hh
          obtain ⟨⟨⟨⟨⟨⟨⟨⟨⟨h1, h2⟩, h3⟩, h4⟩, h5⟩, h6⟩, h7⟩, h8⟩, h9⟩, h10⟩ := hh
          rw [heq] at hs
          obtain ⟨v1, r1, rfl, g1, g2⟩ := s_R_cons hs
          obtain ⟨v2, r2, rfl, g3, g4⟩ := s_R_cons g2
          obtain ⟨v3, r3, rfl, g5, g6⟩ := s_R_cons g4
          obtain ⟨v4, r4, rfl, g7, g8⟩ := s_R_cons g6
          obtain ⟨v5, r, rfl, g9, g10⟩ := s_R_cons g8
          obtain ⟨n, rfl, hn⟩ := v_R_i (Nat.eq_of_beq_eq_true h1) g1
          obtain ⟨dp, rfl, hdp⟩ := v_R_i (Nat.eq_of_beq_eq_true h2) g3
          obtain ⟨sp, rfl, hsp⟩ := v_R_i (Nat.eq_of_beq_eq_true h3) g7
          obtain ⟨k, rfl, hk⟩ := er_rl_ok hb g5 hne
          obtain ⟨k0, rfl, hk0⟩ := er_rl_ok hb g9 hne0
          have d1 := ea_d_ok hb hd h4
          have d8 : px_sum r ≤ 8 := by rw [es_sum_ok g10]; exact Nat.le_of_ble_eq_true h5
          have b6 := ea_isge_ok hb.2.1 hb.2.2.1 h6 hn
          have b7 := ea_isge_ok hb.2.1 hb.2.2.1 h7 hdp
          have b8 := ea_isge_ok hb.2.1 hb.2.2.1 h8 hsp
          have w := List.all_eq_true.mp h9 k hk
          have w0 := List.all_eq_true.mp h10 k0 hk0
          rw [Bool.and_eq_true, Bool.and_eq_true, Bool.not_eq_true'] at w
          obtain ⟨⟨w1, w2⟩, w3⟩ := w
          rw [Bool.and_eq_true] at w0
          obtain ⟨w4, w5⟩ := w0
          have w6 := List.all_eq_true.mp w5 k hk
          rw [Bool.and_eq_true, Bool.and_eq_true, ea_le_iff, ea_le_iff] at w6
          obtain ⟨⟨w6, w7⟩, w8⟩ := w6
          cases ht : eL[k]? with
          | none => rw [ht] at w1; cases w1
          | some t =>
          cases ht0 : eL[k0]? with
          | none => rw [ht0] at w4; cases w4
          | some t0 =>
          rw [ht] at w1
          rw [ht0] at w4
          dsimp only at w1 w4
          rw [Bool.and_eq_true] at w1 w4
          have t1 := Nat.eq_of_beq_eq_true w1.1
          have t2 := ea_isle_ok hb.2.1 hb.2.2.1 w1.2 (ev_add hdp hn)
          have t3 := Nat.eq_of_beq_eq_true w4.1
          have t4 := ea_isle_ok hb.2.1 hb.2.2.1 w4.2 (ev_add hsp hn)
          have cl : ∀ z : Int32, z.toNatClampNeg = z.toInt.toNat := fun _ => rfl
          have nn : ∀ z : Int32, 0 ≤ z.toInt → ¬ z < 0 := fun z hz e => by have := i32_lt0.mp e; omega
          have hwa : w_a h (h.1, h.2.1, h.2.2.1, (fun q => if q = k then va_cpy (h.2.2.2.1 k0) (h.2.2.2.1 k) sp.toNatClampNeg dp.toNatClampNeg n.toNatClampNeg else h.2.2.2.1 q), h.2.2.2.2) k := ⟨⟨rfl, rfl, rfl⟩, fun k' hn => ⟨if_neg hn, rfl, rfl⟩⟩
          have hgi : g_I c.1 (h.1, h.2.1, h.2.2.1, (fun q => if q = k then va_cpy (h.2.2.2.1 k0) (h.2.2.2.1 k) sp.toNatClampNeg dp.toNatClampNeg n.toNatClampNeg else h.2.2.2.1 q), h.2.2.2.2) := by
            refine g_I_a hb.2.2.2.2.1 hwa (fun t' ht' => ?_)
            rw [ht] at ht'
            cases ht'
            refine ⟨fun _ i hi => ?_, fun e => by omega, fun e => by omega⟩
            show ok_v ((if k = k then va_cpy (h.2.2.2.1 k0) (h.2.2.2.1 k) sp.toNatClampNeg dp.toNatClampNeg n.toNatClampNeg else h.2.2.2.1 k) i).toInt _
            rw [if_pos rfl]
            unfold va_cpy
            split
            · next hc =>
              rw [cl, cl] at hc
              have o := (hb.2.2.2.2.1 k0 t0 ht0).2.1 (Or.inl t3) (sp.toNatClampNeg + (i - dp.toNatClampNeg)) (by rw [cl, cl]; omega)
              refine ⟨by have := o.1; omega, by have := o.2.1; omega, Or.inl ?_⟩
              split at w8
              · next e => exact e
              · cases w8
            · exact (hb.2.2.2.2.1 k t ht).2.1 (Or.inl t1) i hi
          rw [xe_fl_eq] at hA
          cases hA
          refine ⟨(r, _), ?_, b_R_a hX hb hwa hgi w2 w3 (ef_dropa_ok hb.2.2.2.1 hwa hk), hl, g10⟩
          unfold px_acp
          dsimp only
          rw [ht, ht0]
          dsimp only
          rw [if_pos ⟨d1, d8, t1, t3, nn _ b8, nn _ b7, nn _ b6, by rw [cl, cl]; omega, by rw [cl, cl]; omega⟩]
        · cases hA
  · cases hA
def ah_4f (I : Jvm.ClassFile.Instr) : (Nat → eE) → Nat → Nat → Nat → Nat → Nat → eS → Option eS := match I with
  | .putfield _ => fun G W DX _ x y A => ah_put G W DX A x y
  | .iastore => fun G W DX _ _ _ A => ah_ast G W DX 1 0 A
  | .bastore => fun G W DX _ _ _ A => ah_bst G W DX A
  | .lastore => fun G W DX _ _ _ A => ah_ast G W DX 3 1 A
  | .invokestatic _ => fun G W DX j x _ A => if Nat.beq x 5 then ah_acp G W DX j A else none
  | _ => fun _ _ _ _ _ _ _ => none
theorem ah_4_ok {c : eX} {DX j d x y : Nat} {ρ : List Int} {A A' : eS} {lv : List (Nat × pv)} {st : List pv} {h : pH} {I : Jvm.ClassFile.Instr} (hX : x_K c.2.1 DX) (hd : d + j = c.2.2.2.2) (hr : r_R c ρ A lv st h) (hA : ah_4f I c.1 c.2.2.2.1 DX j x y A = some A') : ∃ w, px_wf I eL d x y st h = some w ∧ r_R c ρ A' lv w.1 w.2 := by
  unfold ah_4f at hA
  split at hA <;> (try dsimp only at hA)
  · exact ah_put_ok hX hr hA
  · exact ah_iast_ok hX hr hA
  · exact ah_bast_ok hX hr hA
  · exact ah_last_ok hX hr hA
  · split at hA
    · next e =>
      obtain ⟨w, h1, h2⟩ := ah_acp_ok hX hd hr hA
      refine ⟨w, ?_, h2⟩
      show (if x = 5 then px_acp eL d h st else none) = _
      rw [if_pos (Nat.eq_of_beq_eq_true e)]
      exact h1
    · cases hA
  · cases hA
