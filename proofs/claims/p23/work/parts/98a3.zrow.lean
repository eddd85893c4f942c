/-! the start: rows of twos -/
theorem z_d9 : z_q 70 2 2147483648 = true ∧ z_q 73 2 2147483648 = true ∧ z_q 144 2 2147483648 = true ∧ z_q 147 2 2147483648 = true ∧ z_q 196 22 2147483648 = true ∧ z_q 196 23 2147483648 = true ∧ z_q 196 75 2147483648 = true ∧ z_q 196 76 2147483648 = true := by decide +kernel
theorem z_R9 {b : Nat} {as : List Nat} {ws : va_W} {E : Nat → ClassId} (hR : xe_R E b as xs_2 ws) : R9 (z_h ws) := by
  obtain ⟨a1, a2, a3, a4, a5, a6, a7, a8⟩ := z_d9
  have e : ∀ {k y : Nat}, z_q k y 2147483648 = true → cF (z_h ws) k y = 0 := fun h => by rw [z_fld hR h]; rfl
  have w : ∀ {k a b y A B : Nat}, cF (z_h ws) k 2 = 0 → cF (z_h ws) 196 y = 0 → rPw k a b y A B (z_h ws) := fun h1 h2 => ⟨h1.trans h2.symm, fun j hj => by rw [h1] at hj; exact absurd hj (Nat.not_lt_zero _)⟩
  exact ⟨z_R0 hR, w (e a1) (e a5), w (e a2) (e a6), w (e a3) (e a7), w (e a4) (e a8)⟩
