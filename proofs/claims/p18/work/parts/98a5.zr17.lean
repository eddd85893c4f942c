/-! the start: the law in use, the slides' data -/
def zb (b j : Nat) : Bool := [3, 4, 5, 6].all (fun y => z_q (b + 2 * j) y 2147483648) && z_qa (b + 1 + 2 * j) 2147483648
theorem z_d17 : z_role (zs_f 164 0) = some 165 ∧ z_role (zs_f 164 1) = some 156 ∧ z_q 165 0 2147483648 = true ∧ z_q 196 35 2147483648 = true ∧ z_q 196 49 2147483648 = true ∧ [199, 200, 201, 202, 210, 242, 243, 244, 245, 253].all (fun k => z_qa k 2147483648) = true := by decide +kernel
theorem z_d18 : ∀ j, j < 32 → zb 4 j = true ∧ zb 78 j = true := by decide +kernel
theorem zb_x {b j : Nat} (h : zb b j = true) : (z_q (b + 2 * j) 3 2147483648 = true ∧ z_q (b + 2 * j) 4 2147483648 = true ∧ z_q (b + 2 * j) 5 2147483648 = true ∧ z_q (b + 2 * j) 6 2147483648 = true) ∧ z_qa (b + 1 + 2 * j) 2147483648 = true := by
  unfold zb at h
  rw [Bool.and_eq_true] at h
  have k := List.all_eq_true.mp h.1
  exact ⟨⟨k 3 (by decide), k 4 (by decide), k 5 (by decide), k 6 (by decide)⟩, h.2⟩
theorem z_R17 {b : Nat} {as : List Nat} {ws : va_W} {E : Nat → ClassId} (hR : xe_R E b as xs_2 ws) : R17 (z_h ws) := by
  obtain ⟨a1, a2, a3, a4, a5, a6⟩ := z_d17
  have e : ∀ {k y : Nat}, z_q k y 2147483648 = true → cF (z_h ws) k y = 0 := fun h => by rw [z_fld hR h]; rfl
  have ea : ∀ {k : Nat}, z_qa k 2147483648 = true → ∀ j, fA (z_h ws) k j = 0 := fun h j => by rw [z_arr hR h j]; rfl
  have ar : ∀ k, k ∈ ([199, 200, 201, 202, 210, 242, 243, 244, 245, 253] : List Nat) → ∀ j, fA (z_h ws) k j = 0 := fun k hk => ea (List.all_eq_true.mp a6 k hk)
  have e2 : cF (z_h ws) 165 0 = 0 := e a3
  have e3 : cF (z_h ws) 196 35 = 0 := e a4
  refine ⟨⟨z_R0 hR, Or.inr ⟨a1, a2, 0, 0, _, _, _, _, _, _, by omega, by omega, ⟨by omega, by omega, fun q hq => absurd hq (by omega)⟩, ⟨e2, rfl, rfl, rfl, rfl, rfl, rfl⟩, e3, fun j hj => absurd hj (by omega), fun j hj => absurd hj (by omega)⟩⟩, ⟨⟨fun m hm => ?_, fun m hm => ?_, fun k hk => ?_, fun k hk => ?_⟩, e a5⟩⟩
  · obtain ⟨⟨h3, h4, h5, h6⟩, h7⟩ := zb_x (z_d18 m hm).1
    exact ⟨⟨(e h3).trans (ar 199 (by decide) m).symm, (e h4).trans (ar 200 (by decide) m).symm, (e h5).trans (ar 201 (by decide) m).symm, (e h6).trans (ar 202 (by decide) m).symm⟩, fun j hj => (ea h7 j).trans (ar 210 (by decide) _).symm⟩
  · obtain ⟨⟨h3, h4, h5, h6⟩, h7⟩ := zb_x (z_d18 m hm).2
    exact ⟨⟨(e h3).trans (ar 242 (by decide) m).symm, (e h4).trans (ar 243 (by decide) m).symm, (e h5).trans (ar 244 (by decide) m).symm, (e h6).trans (ar 245 (by decide) m).symm⟩, fun j hj => (ea h7 j).trans (ar 253 (by decide) _).symm⟩
  · rw [ar 210 (by decide)]
    exact ⟨by decide, by decide⟩
  · rw [ar 253 (by decide)]
    exact ⟨by decide, by decide⟩
