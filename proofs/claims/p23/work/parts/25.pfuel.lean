/-! the plain machine with more fuel answers the same -/
theorem px_step_mono {ly : List (Nat × Nat)} {d : Nat} {sc : pS} {μ : Nat} {K K' : px_KT} {call call' : px_CT} {q : xe_I} {pc : Nat} {lv : List (Nat × pv)} {st : List pv} {h : pH} {o : Option pv × pH}
    (hK : ∀ pc2 lv2 st2 h2 o2, K pc2 lv2 st2 h2 = some o2 → K' pc2 lv2 st2 h2 = some o2) (hC : ∀ y vs h2 o2, call y vs h2 = some o2 → call' y vs h2 = some o2)
    (hh : px_step ly d sc μ K call q pc lv st h = some o) : px_step ly d sc μ K' call' q pc lv st h = some o := by
  unfold px_step at hh ⊢
  generalize px_kd q.1 q.2.2.1 = kd at hh ⊢
  match kd, hh with
  | 0, hh =>
    have hh : px_h0 ly d sc μ K call q pc lv st h = some o := hh
    show px_h0 ly d sc μ K' call' q pc lv st h = some o
    unfold px_h0 at hh ⊢
    split at hh
    · next st2 e => exact hK _ _ _ _ _ hh
    · cases hh
  | 1, hh =>
    have hh : px_h1 ly d sc μ K call q pc lv st h = some o := hh
    show px_h1 ly d sc μ K' call' q pc lv st h = some o
    unfold px_h1 at hh ⊢
    split at hh
    · next t e => exact hK _ _ _ _ _ hh
    · cases hh
  | 2, hh =>
    have hh : px_h2 ly d sc μ K call q pc lv st h = some o := hh
    show px_h2 ly d sc μ K' call' q pc lv st h = some o
    unfold px_h2 at hh ⊢
    split at hh
    · next t e => exact hK _ _ _ _ _ hh
    · cases hh
  | 3, hh =>
    have hh : px_h3 ly d sc μ K call q pc lv st h = some o := hh
    show px_h3 ly d sc μ K' call' q pc lv st h = some o
    unfold px_h3 at hh ⊢
    split at hh
    · next ar e =>
      split at hh
      · next g =>
        split at hh
        · next o2 e2 =>
          simp only [hC _ _ _ _ e2]
          rw [if_pos g]
          exact hK _ _ _ _ _ hh
        · cases hh
      · cases hh
    · cases hh
  | 4, hh =>
    have hh : px_h4 ly d sc μ K call q pc lv st h = some o := hh
    show px_h4 ly d sc μ K' call' q pc lv st h = some o
    unfold px_h4 at hh ⊢
    split at hh
    · next t e => exact hK _ _ _ _ _ hh
    · cases hh
  | 5, hh => exact hh
  | 6, hh => exact hh
  | 7, hh =>
    have hh : px_h6 ly d sc μ K call q pc lv st h = some o := hh
    show px_h6 ly d sc μ K' call' q pc lv st h = some o
    unfold px_h6 at hh ⊢
    split at hh
    · next t e => exact hK _ _ _ _ _ hh
    · cases hh
  | k + 8, hh => exact hh
theorem px_run_up (ly : List (Nat × Nat)) : ∀ (n : Nat) {d μ pc : Nat} {sc : pS} {lv : List (Nat × pv)} {st : List pv} {h : pH} {o : Option pv × pH}, px_run ly n d sc μ pc lv st h = some o → px_run ly (n + 1) d sc μ pc lv st h = some o
  | 0, _, _, _, _, _, _, _, _, hh => by cases hh
  | n + 1, d, μ, pc, sc, lv, st, h, o, hh => by
    unfold px_run at hh ⊢
    split at hh
    · next q hq =>
      exact px_step_mono (fun pc2 lv2 st2 h2 o2 e => px_run_up ly n e) (fun y vs h2 o2 e => px_run_up ly n e) hh
    · cases hh
theorem px_run_le (ly : List (Nat × Nat)) {n n2 d μ pc : Nat} {sc : pS} {lv : List (Nat × pv)} {st : List pv} {h : pH} {o : Option pv × pH} (hn : n ≤ n2) (hh : px_run ly n d sc μ pc lv st h = some o) : px_run ly n2 d sc μ pc lv st h = some o := by
  induction n2 with
  | zero =>
    have : n = 0 := by omega
    subst this
    exact hh
  | succ k ih =>
    by_cases e : n = k + 1
    · subst e; exact hh
    · exact px_run_up ly k (ih (by omega))
