/-! by hand: laysTurns, its contract -/
set_option maxHeartbeats 4000000 in
theorem h_186 {X : pH → Prop} (hX : x_K X eDX) (d : Nat) (hK : k_I eG X eKT d) : k_S eG X kk_186 d := by
  intro vs h xs ys m hG hx hM hd9 _ _
  obtain ⟨hd4, hL, hF, -⟩ := hM
  have e9 := m_F_nil hF
  subst e9
  obtain ⟨x0, ys0, rfl, ⟨v0, a1, a2, a3, a4⟩, hL⟩ := m_L_cons hL
  obtain ⟨x1, ys1, rfl, ⟨v1, b1, b2, b3, b4⟩, hL⟩ := m_L_cons hL
  have e9 := m_L_nil hL
  subst e9
  obtain ⟨q, rfl⟩ := ct_2 a2
  obtain ⟨n, rfl⟩ := ct_0 b2
  subst a3 b3
  have eq := cv_r a4
  subst eq
  have b5 : 0 ≤ n.toInt := b4.1
  have b6 : n.toInt ≤ 31 := b4.2.1
  have hd5 : 16 ≤ d := hd4
  obtain ⟨i, hi, rfl⟩ := i_nI (n := 31) b5 b6 (by decide)
  have a1 : px_lg (px_ar 0 vs) 0 = some (.inr (.inr (some 196))) := a1
  have b1 : px_lg (px_ar 0 vs) 1 = some (.inl (nI i)) := b1
  have hDX : kk_186.2.2.2.1 &&& eDX = 0 := by decide +kernel
  show t_X d 216 0 (px_ar 0 vs) [] h (fun o => g_I eG o.2 ∧ X o.2 ∧ f_M kk_186.2.2.2.1 h o.2 ∧ ∃ p ∈ kk_186.2.2.2.2, ∃ zs, m_P p ((d : Int) :: ([cv (.inr (.inr (some 196))), cv (.inl (nI i))] ++ [])) o.1 o.2 zs)
  refine t_0 ql_0 rfl rfl ?_
  refine t_2 ql_1 rfl (w := (px_s1 (px_ar 0 vs) 2 (.inl (Int32.ofInt 1)), [])) rfl ?_
  refine l0_loop hX hK (by omega) hd9 hx hDX (by decide +kernel) (by decide +kernel) (by decide +kernel) (i := i) (by omega) (fun g lv hJ l0 l1 => ?_) 7 1 h _ rfl ⟨hG, f_M_rf _ _⟩ (s1_ne (by decide) (fun _ => rfl) a1) (s1_ne (by decide) (fun _ => rfl) b1) s1_eq
  exact l0_mid hX hK (by omega) hd9 hx hDX (by decide +kernel) (by decide +kernel) (by decide +kernel) (by decide +kernel) (by decide +kernel) (by decide +kernel) (i := i) (by omega) (fun g hg => ⟨hg.1, hX _ _ _ hg.2 hDX hx, hg.2, _, List.mem_cons_self .., [], ⟨rfl, [], rfl, trivial⟩, fun c hc => by cases hc⟩) hJ l0 l1
