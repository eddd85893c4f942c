/-! the start: what both sides know there -/
def z_q (k y a : Nat) : Bool := match xh_g xs_2 (z_pi.getD k 0) with
  | some c => c.1 == 0 && (Nat.ble (y + 1) c.2.2.1.length && decide (c.2.2.1.getD y (9, 0, 0) = (0, a, a)))
  | none => false
def z_qa (k a : Nat) : Bool := match xh_g xs_2 (z_pi.getD k 0) with
  | some c => (c.1 == 1 || c.1 == 2) && (decide (c.2.2.2.1 = (0, a, a)) && c.2.2.2.2.isEmpty)
  | none => false
section ZQ
variable {b : Nat} {as : List Nat} {ws : va_W} {E : Nat → ClassId}
theorem z_fld (hR : xe_R E b as xs_2 ws) {k y a : Nat} (h : z_q k y a = true) : cF (z_h ws) k y = (a : Int) - 2147483648 := by
  obtain ⟨h1, h2, h3, h4⟩ := hR
  unfold z_q at h
  cases hc : xh_g xs_2 (z_pi.getD k 0) with
  | none => rw [hc] at h; cases h
  | some c =>
    rw [hc] at h
    obtain ⟨q, e, w1, w2⟩ := h4 _ c hc
    obtain ⟨c1, c2, cl, cd, co⟩ := c
    dsimp only at h
    rw [Bool.and_eq_true, Bool.and_eq_true] at h
    obtain ⟨k1, k2, k3⟩ := h
    obtain rfl : c1 = 0 := by simpa using k1
    have k2 := Nat.le_of_ble_eq_true k2
    have k3 := of_decide_eq_true k3
    obtain ⟨fs, rfl, hw⟩ := w2
    have ha : cl[y]? = some (0, a, a) := by
      rw [List.getD_eq_getElem?_getD, List.getElem?_eq_getElem (by omega)] at k3
      rw [List.getElem?_eq_getElem (by omega)]
      exact congrArg some k3
    obtain ⟨v, v1, v2⟩ := xe_w_get hw ha
    obtain ⟨x, rfl, q1, q2⟩ := xe_g0 rfl v2
    dsimp only at q1 q2 w1
    show ((z_h ws).1 k y).toInt = _
    have e0 : (z_h ws).1 k y = x := by
      show z_fi ws[z_pi.getD k 0]? y = x
      rw [w1]
      show (match fs[y]? with
        | some (.int x) => x
        | _ => 0) = x
      rw [v1]
    rw [e0, xe_ti]
    omega
theorem z_arr (hR : xe_R E b as xs_2 ws) {k a : Nat} (h : z_qa k a = true) (j : Nat) : fA (z_h ws) k j = (a : Int) - 2147483648 := by
  obtain ⟨h1, h2, h3, h4⟩ := hR
  unfold z_qa at h
  cases hc : xh_g xs_2 (z_pi.getD k 0) with
  | none => rw [hc] at h; cases h
  | some c =>
    rw [hc] at h
    obtain ⟨q, e, w1, w2⟩ := h4 _ c hc
    obtain ⟨c1, c2, cl, cd, co⟩ := c
    dsimp only at h
    rw [Bool.and_eq_true, Bool.and_eq_true, Bool.or_eq_true] at h
    obtain ⟨k1, k2, k3⟩ := h
    have k2 := of_decide_eq_true k2
    have k3 := List.isEmpty_iff.mp k3
    subst k2 k3
    have fin : ∀ f : Nat → Int32, (∃ en : ClassId, e = .inl (en, c2, .inl f)) → (∀ j, xe_g b as (0, a, a) (.int (f j))) → fA (z_h ws) k j = (a : Int) - 2147483648 := fun f he hw => by
      obtain ⟨en, rfl⟩ := he
      obtain ⟨x, hx, q1, q2⟩ := xe_g0 rfl (hw j)
      dsimp only at q1 q2 w1
      show ((z_h ws).2.2.2.1 k j).toInt = _
      have e0 : (z_h ws).2.2.2.1 k = f := by
        show z_ai ws[z_pi.getD k 0]? = f
        rw [w1]
        rfl
      rw [e0]
      cases hx
      rw [xe_ti]
      omega
    rcases k1 with k1 | k1
    · obtain rfl : c1 = 1 := by simpa using k1
      obtain ⟨f, rfl, hw⟩ := w2
      exact fin f ⟨_, rfl⟩ hw
    · obtain rfl : c1 = 2 := by simpa using k1
      obtain ⟨f, rfl, hw⟩ := w2
      exact fin f ⟨_, rfl⟩ hw
theorem z_d1 : z_q 196 0 2147483648 = true ∧ z_q 196 73 2147483648 = true ∧ z_q 196 72 2147483648 = true ∧ z_q 0 4 2147483648 = true ∧ z_q 0 1 2147483648 = true ∧ z_q 196 17 2147483648 = true ∧ z_qa 1 2147483648 = true ∧ z_qa 211 2147483648 = true := by decide +kernel
theorem z_d2 : ∀ j, j < 32 → z_q (4 + 2 * j) 2 2147483648 = true ∧ z_q (78 + 2 * j) 2 2147483648 = true := by decide +kernel
theorem z_d3 : ∀ j, j < 32 → z_role (zs_a 3 j) = some (4 + 2 * j) ∧ z_role (zs_a 77 j) = some (78 + 2 * j) := by decide +kernel
theorem bt_0 {x : Int32} (h : x.toInt = 0) (j : Nat) : ¬ x.toBitVec.getLsbD j = true := by
  have : x = 0 := Int32.toInt_inj.mp (by rw [h]; rfl)
  rw [this]
  show ¬ (0#32).getLsbD j = true
  rw [BitVec.getLsbD_zero]
  exact Bool.false_ne_true
theorem z_R0 (hR : xe_R E b as xs_2 ws) : R0 (z_h ws) := by
  obtain ⟨a1, a2, a3, a4, a5, a6, a7, a8⟩ := z_d1
  refine ⟨⟨fun j hj => z_d3 j hj, fun k hk => ?_, fun j hj => ?_, fun j hj => ?_, ?_⟩, ?_⟩
  · rw [z_arr hR a7, z_arr hR a8]
    omega
  · rw [z_fld hR (z_d2 j hj).1]
    exact ⟨fun z => by omega, fun z => absurd z (bt_0 (z_fld hR a1) j)⟩
  · rw [z_fld hR (z_d2 j hj).2]
    exact ⟨fun z => by omega, fun z => absurd z (bt_0 (z_fld hR a2) j)⟩
  · rw [z_fld hR a3, z_fld hR a4]
  · rw [z_fld hR a5, z_fld hR a6]
end ZQ
