/-! tray of both sides: the pair with its answers -/
theorem pr_an {R : pH → Prop} {μ ν : Nat} {as : List pv} {τ : Nat} {g : pH} (h : pr_ R μ ν as τ false g) (h' : t_X 99 μ 0 (px_ar 0 (pvR 0 :: as)) [] g (fun o => ∃ v, o.1 = some v ∧ t_X 99 ν 0 (px_ar 0 (pvR 196 :: as)) [] o.2 (fun o2 => o2.1 = some v))) : pr_ R μ ν as τ true g := t_mono (t_and h h') (fun o ho => by
  obtain ⟨⟨v, h1, h2, h3⟩, v', h4, h5⟩ := ho
  obtain rfl : v = v' := Option.some.inj (h1.symm.trans h4)
  refine ⟨v, h1, h2, t_mono (t_and h3 h5) (fun o2 ho2 => ?_)⟩
  obtain ⟨⟨w, k1, k2, k3, k4, k5, -⟩, k6⟩ := ho2
  exact ⟨w, k1, k2, k3, k4, k5, fun _ => Option.some.inj (k6.symm.trans k1)⟩)
theorem pz_tray {g : pH} (hG : g_I eG g) (hx : xL g) (hR : R0 g) (x1 : Int32) : pr_ R0 157 264 [.inl x1] 0 true g := by
  obtain ⟨h5, h6⟩ := sp_2 hG
  refine pr_an (pr_tray hG hx hR x1) ?_
  rcases h6 with h6 | h6 <;> rcases h5 with h5 | h5
  · exact pt_150 hG hR h6 h5 (Or.inl rfl) x1
  · exact pt_150 hG hR h6 h5 (Or.inr rfl) x1
  · exact pt_152 hG hR h6 h5 (Or.inl rfl) x1
  · exact pt_152 hG hR h6 h5 (Or.inr rfl) x1
