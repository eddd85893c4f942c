/-! the start: what is alike (a draft) -/
theorem z_R30 {b : Nat} {as : List Nat} {ws : va_W} {E : Nat → ClassId} (hR : xe_R E b as xs_2 ws) : R30 (z_h ws) := by
  refine ⟨z_R17 hR, fun m hm z => ?_, fun m hm z => ?_⟩
  · rw [z_fld hR (z_d2 m hm).1] at z
    exact absurd z (by decide)
  · rw [z_fld hR (z_d2 m hm).2] at z
    exact absurd z (by decide)
