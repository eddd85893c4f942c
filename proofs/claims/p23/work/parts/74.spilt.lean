/-! by hand: takesSpilt, the second loop and its contract (printed in part by wip/e2/ts2.py) -/
theorem eg_a238 : eG (cn 238) = (0, 31, []) := by decide +kernel
theorem eg_dx5 : kk_185.2.2.2.1 &&& eDX = 0 := by decide +kernel
theorem eg_m5 : kk_185.2.2.2.1.testBit (cn 238) = true := by decide +kernel
theorem eg_n5 : kk_185.2.2.2.1.testBit (cn 196 + 71) = true := by decide +kernel
theorem eg_f71 : eG (cn 196 + 71) = (0, 12, []) := by decide +kernel
theorem eg_f68 : (eG (cn 196 + 68)).2.2 = [239] := by decide +kernel
theorem eg_f16 : (eG (cn 196 + 16)).2.2 = [212] := by decide +kernel
set_option maxHeartbeats 4000000 in
theorem ts_2 {d : Nat} (hd : 3 ≤ d) {h0 : pH} {n bits : Int32} (hc : cnt (fun i => bits.toBitVec.getLsbD i) 32 ≤ 12) {P : Option pv × pH → Prop} (h1 : ∀ g : pH, J_ kk_185.2.2.2.1 h0 g → g.1 196 71 = n → P (some (.inl (Int32.ofInt 1)), g)) : ∀ (m j : Nat) (g : pH) (lv : List (Nat × pv)), j + m = 32 → J_ kk_185.2.2.2.1 h0 g → g.1 196 71 = n → px_lg lv 0 = some (.inr (.inr (some 196))) → px_lg lv 2 = some (.inl bits) → px_lg lv 3 = some (.inl (nI (cnt (fun i => bits.toBitVec.getLsbD i) j))) → px_lg lv 4 = some (.inl (nI j)) → t_X d 261 64 lv [] g P := by
  intro m
  induction m with
  | zero =>
    intro j g lv hj hJ hn l0 l2 l3 l4
    have hlt : ¬ nI j < (Int8.ofInt (32)).toInt32 := by
      rw [show j = 32 by omega]
      decide +kernel
    refine t_0 qs_64 rfl (ld_i l4) ?_
    refine t_0 qs_66 rfl rfl ?_
    refine t_1 qs_68 rfl (pc_ge_t (pc := 68) (by decide) hlt) ?_
    refine t_0 qs_101 rfl rfl ?_
    refine t_5 qs_102 rfl rfl ?_
    exact h1 g hJ hn
  | succ m ih =>
    intro j g lv hj hJ hn l0 l2 l3 l4
    have hlt : nI j < (Int8.ofInt (32)).toInt32 := by
      have : ∀ j, j < 32 → nI j < (Int8.ofInt (32)).toInt32 := by decide +kernel
      exact this j (by omega)
    have hc1 : cnt (fun i => bits.toBitVec.getLsbD i) (j + 1) ≤ cnt (fun i => bits.toBitVec.getLsbD i) 32 := cnt_le (by omega)
    have hc2 : cnt (fun i => bits.toBitVec.getLsbD i) (j + 1) = cnt (fun i => bits.toBitVec.getLsbD i) j + (if bits.toBitVec.getLsbD j then 1 else 0) := rfl
    have ih := fun g lv => ih (j + 1) g lv (by omega)
    generalize hce : cnt (fun i => bits.toBitVec.getLsbD i) j = c at l3 hc2
    have hr := gI_r (r := 238) hJ.1 el_196 (Nat.le_of_ble_eq_true rfl) (y := 68) rfl eg_f68
    refine t_0 qs_64 rfl (ld_i l4) ?_
    refine t_0 qs_66 rfl rfl ?_
    refine t_1 qs_68 rfl (pc_ge_f (pc := 68) (by decide) hlt) ?_
    show t_X d 261 71 lv [] g P
    refine t_0 qs_71 rfl (ld_i l2) ?_
    refine t_0 qs_72 rfl (ld_i l4) ?_
    refine t_3 qs_74 rfl (ar := ([.inl bits, .inl (nI j)], [])) (pcal_s ⟨Or.inl rfl, rfl, Nat.le_of_ble_eq_true rfl⟩) ⟨by omega, Nat.le_of_ble_eq_true rfl, Nat.le_of_ble_eq_true rfl, rfl⟩ ?_
    refine has_run (fun hb => ?_) (fun hb => ?_)
    · have hb2 := (bt_has (by omega)).mp hb
      rw [if_pos hb2] at hc2
      have hcl : ¬ (nI c < 0 ∨ 12 ≤ (nI c).toNatClampNeg) := e_clamp (by rw [nI_toInt (by omega)]; omega) (by rw [nI_toInt (by omega)]; omega)
      show t_X d 261 77 lv [.inl (Int32.ofInt 1)] g P
      refine t_1 qs_77 rfl (pb_ne_t (pc := 77) (by decide) i1_n) ?_
      show t_X d 261 83 lv [] g P
      refine t_0 qs_83 rfl (ld_a l0) ?_
      refine t_0 qs_84 rfl (pget el_196 hr) ?_
      refine t_0 qs_87 rfl (ld_i l3) ?_
      refine t_0 qs_88 rfl (ld_i l4) ?_
      refine t_4 qs_90 rfl (piast el_238 hcl) ?_
      show t_X d 261 91 lv [] (g.1, g.2.1, g.2.2.1, pu g.2.2.2.1 238 (nI c).toNatClampNeg (nI j), g.2.2.2.2) P
      refine t_0 qs_91 rfl (ld_i l3) ?_
      refine t_0 qs_92 rfl rfl ?_
      refine t_0 qs_93 rfl rfl ?_
      refine t_2 qs_94 rfl (w := (px_s1 lv 3 (.inl ((nI c) + (Int32.ofInt (1)))), [])) rfl ?_
      replace l0 : px_lg (px_s1 lv 3 (.inl ((nI c) + (Int32.ofInt (1))))) 0 = some (.inr (.inr (some 196))) := s1_ne (by decide) (fun _ => rfl) l0
      replace l2 : px_lg (px_s1 lv 3 (.inl ((nI c) + (Int32.ofInt (1))))) 2 = some (.inl (bits)) := s1_ne (by decide) (fun _ => rfl) l2
      replace l4 : px_lg (px_s1 lv 3 (.inl ((nI c) + (Int32.ofInt (1))))) 4 = some (.inl (nI j)) := s1_ne (by decide) (fun _ => rfl) l4
      have l3 : px_lg (px_s1 lv 3 (.inl ((nI c) + (Int32.ofInt (1))))) 3 = some (.inl ((nI c) + (Int32.ofInt (1)))) := s1_eq
      generalize px_s1 lv 3 (.inl ((nI c) + (Int32.ofInt (1)))) = lv1 at l0 l2 l4 l3 ⊢
      show t_X d 261 95 lv1 [] (g.1, g.2.1, g.2.2.1, pu g.2.2.2.1 238 (nI c).toNatClampNeg (nI j), g.2.2.2.2) P
      refine t_2 qs_95 rfl (w := (px_s1 lv1 4 (.inl ((nI j) + Int32.ofInt (1))), [])) (pinc l4 (by decide)) ?_
      replace l0 : px_lg (px_s1 lv1 4 (.inl ((nI j) + Int32.ofInt (1)))) 0 = some (.inr (.inr (some 196))) := s1_ne (by decide) (fun _ => rfl) l0
      replace l2 : px_lg (px_s1 lv1 4 (.inl ((nI j) + Int32.ofInt (1)))) 2 = some (.inl (bits)) := s1_ne (by decide) (fun _ => rfl) l2
      replace l3 : px_lg (px_s1 lv1 4 (.inl ((nI j) + Int32.ofInt (1)))) 3 = some (.inl ((nI c) + (Int32.ofInt (1)))) := s1_ne (by decide) (fun _ => rfl) l3
      have l4 : px_lg (px_s1 lv1 4 (.inl ((nI j) + Int32.ofInt (1)))) 4 = some (.inl ((nI j) + Int32.ofInt (1))) := s1_eq
      generalize px_s1 lv1 4 (.inl ((nI j) + Int32.ofInt (1))) = lv2 at l0 l2 l3 l4 ⊢
      show t_X d 261 98 lv2 [] (g.1, g.2.1, g.2.2.1, pu g.2.2.2.1 238 (nI c).toNatClampNeg (nI j), g.2.2.2.2) P
      refine t_1 qs_98 rfl (pb_goto (pc := 98) (by decide)) ?_
      show t_X d 261 64 lv2 [] (g.1, g.2.1, g.2.2.1, pu g.2.2.2.1 238 (nI c).toNatClampNeg (nI j), g.2.2.2.2) P
      rw [j_inc (by omega)] at l3 l4
      refine ih _ _ (J_ia hJ el_238 eg_m5 ?_) hn l0 l2 ?_ l4
      · rw [eg_a238, nI_toInt (by omega)]
        exact ⟨by show (0 : Int) ≤ j; omega, by show (j : Int) ≤ 31; omega, Or.inl rfl⟩
      · rw [hc2]
        exact l3
    · have hb2 : ¬ bits.toBitVec.getLsbD j = true := fun z => hb ((bt_has (by omega)).mpr z)
      rw [if_neg hb2, Nat.add_zero] at hc2
      show t_X d 261 77 lv [.inl (Int32.ofInt 0)] g P
      refine t_1 qs_77 rfl (pb_ne_f (pc := 77) (by decide) i0_0) ?_
      show t_X d 261 80 lv [] g P
      refine t_1 qs_80 rfl (pb_goto (pc := 80) (by decide)) ?_
      show t_X d 261 95 lv [] g P
      refine t_2 qs_95 rfl (w := (px_s1 lv 4 (.inl ((nI j) + Int32.ofInt (1))), [])) (pinc l4 (by decide)) ?_
      replace l0 : px_lg (px_s1 lv 4 (.inl ((nI j) + Int32.ofInt (1)))) 0 = some (.inr (.inr (some 196))) := s1_ne (by decide) (fun _ => rfl) l0
      replace l2 : px_lg (px_s1 lv 4 (.inl ((nI j) + Int32.ofInt (1)))) 2 = some (.inl (bits)) := s1_ne (by decide) (fun _ => rfl) l2
      replace l3 : px_lg (px_s1 lv 4 (.inl ((nI j) + Int32.ofInt (1)))) 3 = some (.inl (nI c)) := s1_ne (by decide) (fun _ => rfl) l3
      have l4 : px_lg (px_s1 lv 4 (.inl ((nI j) + Int32.ofInt (1)))) 4 = some (.inl ((nI j) + Int32.ofInt (1))) := s1_eq
      generalize px_s1 lv 4 (.inl ((nI j) + Int32.ofInt (1))) = lv1 at l0 l2 l3 l4 ⊢
      show t_X d 261 98 lv1 [] g P
      refine t_1 qs_98 rfl (pb_goto (pc := 98) (by decide)) ?_
      show t_X d 261 64 lv1 [] g P
      rw [j_inc (by omega)] at l4
      refine ih _ _ hJ hn l0 l2 ?_ l4
      rw [hc2]
      exact l3
set_option maxHeartbeats 4000000 in
theorem ts_run {d : Nat} (hd : 4 ≤ d) {h : pH} {n : Int32} {lv : List (Nat × pv)} (hG : g_I eG h) (hn : 2 ≤ n.toInt ∧ n.toInt ≤ 12) (l0 : px_lg lv 0 = some (.inr (.inr (some 196)))) (l1 : px_lg lv 1 = some (.inl n)) {P : Option pv × pH → Prop} (h0 : ∀ g : pH, J_ kk_185.2.2.2.1 h g → P (some (.inl (Int32.ofInt 0)), g)) (h1 : ∀ g : pH, J_ kk_185.2.2.2.1 h g → g.1 196 71 = n → P (some (.inl (Int32.ofInt 1)), g)) : t_X d 261 0 lv [] h P := by
  have hJ : J_ kk_185.2.2.2.1 h (pu h.1 196 71 n, h.2) := J_puti ⟨hG, f_M_rf _ _⟩ el_196 rfl eg_n5 (by rw [eg_f71]; exact ⟨by show (0 : Int) ≤ _; omega, hn.2, Or.inl rfl⟩)
  refine t_0 qs_0 rfl (ld_a l0) ?_
  refine t_0 qs_1 rfl (ld_i l1) ?_
  refine t_4 qs_2 rfl (pputi el_196 rfl) ?_
  show t_X d 261 5 lv [] (pu h.1 196 71 n, h.2) P
  refine t_0 qs_5 rfl rfl ?_
  refine t_2 qs_6 rfl (w := (px_s1 lv 2 (.inl (Int32.ofInt (0))), [])) rfl ?_
  replace l0 : px_lg (px_s1 lv 2 (.inl (Int32.ofInt (0)))) 0 = some (.inr (.inr (some 196))) := s1_ne (by decide) (fun _ => rfl) l0
  replace l1 : px_lg (px_s1 lv 2 (.inl (Int32.ofInt (0)))) 1 = some (.inl (n)) := s1_ne (by decide) (fun _ => rfl) l1
  have l2 : px_lg (px_s1 lv 2 (.inl (Int32.ofInt (0)))) 2 = some (.inl (Int32.ofInt (0))) := s1_eq
  generalize px_s1 lv 2 (.inl (Int32.ofInt (0))) = lv1 at l0 l1 l2 ⊢
  show t_X d 261 7 lv1 [] (pu h.1 196 71 n, h.2) P
  refine t_0 qs_7 rfl rfl ?_
  refine t_2 qs_8 rfl (w := (px_s1 lv1 3 (.inl (Int32.ofInt (0))), [])) rfl ?_
  replace l0 : px_lg (px_s1 lv1 3 (.inl (Int32.ofInt (0)))) 0 = some (.inr (.inr (some 196))) := s1_ne (by decide) (fun _ => rfl) l0
  replace l1 : px_lg (px_s1 lv1 3 (.inl (Int32.ofInt (0)))) 1 = some (.inl (n)) := s1_ne (by decide) (fun _ => rfl) l1
  replace l2 : px_lg (px_s1 lv1 3 (.inl (Int32.ofInt (0)))) 2 = some (.inl (Int32.ofInt (0))) := s1_ne (by decide) (fun _ => rfl) l2
  have l3 : px_lg (px_s1 lv1 3 (.inl (Int32.ofInt (0)))) 3 = some (.inl (Int32.ofInt (0))) := s1_eq
  generalize px_s1 lv1 3 (.inl (Int32.ofInt (0))) = lv2 at l0 l1 l2 l3 ⊢
  show t_X d 261 9 lv2 [] (pu h.1 196 71 n, h.2) P
  refine ts_1 (by omega) ⟨by omega, hn.2⟩ (gI_r hJ.1 el_196 (Nat.le_of_ble_eq_true rfl) rfl eg_f16) (h0 _ hJ) (fun lv9 bits hc l0 l2 => ?_) n.toInt.toNat 0 (Int32.ofInt 0) _ (by omega) l0 l1 l2 l3 ?_
  · have hc2 : cnt (fun i => bits.toBitVec.getLsbD i) 32 ≤ 12 := by omega
    refine t_0 qs_59 rfl rfl ?_
    refine t_2 qs_60 rfl (w := (px_s1 lv9 3 (.inl (Int32.ofInt (0))), [])) rfl ?_
    replace l0 : px_lg (px_s1 lv9 3 (.inl (Int32.ofInt (0)))) 0 = some (.inr (.inr (some 196))) := s1_ne (by decide) (fun _ => rfl) l0
    replace l2 : px_lg (px_s1 lv9 3 (.inl (Int32.ofInt (0)))) 2 = some (.inl (bits)) := s1_ne (by decide) (fun _ => rfl) l2
    have l3 : px_lg (px_s1 lv9 3 (.inl (Int32.ofInt (0)))) 3 = some (.inl (Int32.ofInt (0))) := s1_eq
    generalize px_s1 lv9 3 (.inl (Int32.ofInt (0))) = lv10 at l0 l2 l3 ⊢
    show t_X d 261 61 lv10 [] (pu h.1 196 71 n, h.2) P
    refine t_0 qs_61 rfl rfl ?_
    refine t_2 qs_62 rfl (w := (px_s1 lv10 4 (.inl (Int32.ofInt (0))), [])) rfl ?_
    replace l0 : px_lg (px_s1 lv10 4 (.inl (Int32.ofInt (0)))) 0 = some (.inr (.inr (some 196))) := s1_ne (by decide) (fun _ => rfl) l0
    replace l2 : px_lg (px_s1 lv10 4 (.inl (Int32.ofInt (0)))) 2 = some (.inl (bits)) := s1_ne (by decide) (fun _ => rfl) l2
    replace l3 : px_lg (px_s1 lv10 4 (.inl (Int32.ofInt (0)))) 3 = some (.inl (Int32.ofInt (0))) := s1_ne (by decide) (fun _ => rfl) l3
    have l4 : px_lg (px_s1 lv10 4 (.inl (Int32.ofInt (0)))) 4 = some (.inl (Int32.ofInt (0))) := s1_eq
    generalize px_s1 lv10 4 (.inl (Int32.ofInt (0))) = lv11 at l0 l2 l3 l4 ⊢
    show t_X d 261 64 lv11 [] (pu h.1 196 71 n, h.2) P
    exact ts_2 (by omega) hc2 h1 32 0 _ _ rfl hJ (by show pu h.1 196 71 n 196 71 = n; exact pu_at _ _ _ _) l0 l2 l3 l4
  · rw [cnt_z (fun i hi => by
      show (Int32.ofInt 0).toBitVec.getLsbD i = false
      rw [show (Int32.ofInt 0).toBitVec = 0#32 by decide]
      exact BitVec.getLsbD_zero)]
    exact Nat.le_refl _
theorem ct_2 {v : pv} (h : ct v = 2) : ∃ x, v = .inr (.inr x) := by
  rcases v with x | x | x
  · cases h
  · cases h
  · exact ⟨x, rfl⟩
theorem cv_r {x : Option Nat} {r : Nat} {lo hi : Int} (h : ok_v (cv (.inr (.inr x))) (lo, hi, [r + 1])) : x = some r := by
  have h2 := h.2.2
  rcases h2 with h2 | h2
  · cases h2
  · have h2 := List.mem_singleton.mp h2
    cases x with
    | none => cases h2
    | some q =>
      have h3 : ((q : Int) + 1).toNat = r + 1 := h2
      rw [show q = r by omega]
theorem h_185 {X : pH → Prop} (hX : x_K X eDX) (d : Nat) : k_S eG X kk_185 d := by
  intro vs h xs ys m hG hx hM _ _ _
  obtain ⟨hd4, hL, hF, -⟩ := hM
  have e9 := m_F_nil hF
  subst e9
  obtain ⟨x0, ys0, rfl, ⟨v0, a1, a2, a3, a4⟩, hL⟩ := m_L_cons hL
  obtain ⟨x1, ys1, rfl, ⟨v1, b1, b2, b3, b4⟩, hL⟩ := m_L_cons hL
  have e9 := m_L_nil hL
  subst e9
  obtain ⟨q, rfl⟩ := ct_2 a2
  obtain ⟨n, rfl⟩ := ct_0 b2
  subst a3 b3
  have eq := cv_r a4
  subst eq
  have b5 : 2 ≤ n.toInt := b4.1
  have b6 : n.toInt ≤ 12 := b4.2.1
  have hd5 : 4 ≤ d := hd4
  refine ts_run hd5 hG ⟨b5, b6⟩ a1 b1 (P := fun o => g_I eG o.2 ∧ X o.2 ∧ f_M kk_185.2.2.2.1 h o.2 ∧ ∃ p ∈ kk_185.2.2.2.2, ∃ zs, m_P p ((d : Int) :: ([cv (.inr (.inr (some 196))), cv (.inl n)] ++ [])) o.1 o.2 zs) (fun g hg => ⟨hg.1, hX _ _ _ hg.2 eg_dx5 hx, hg.2, _, List.mem_cons_self .., [0], ⟨.inl (Int32.ofInt 0), 0, [], rfl, ⟨rfl, rfl, by decide, by decide, Or.inl rfl⟩, rfl, trivial⟩, fun c hc => by cases hc⟩) (fun g hg hgn => ⟨hg.1, hX _ _ _ hg.2 eg_dx5 hx, hg.2, _, List.mem_cons_of_mem _ (List.mem_cons_self ..), [1, n.toInt], ⟨.inl (Int32.ofInt 1), 1, [n.toInt], rfl, ⟨rfl, rfl, by decide, by decide, Or.inl rfl⟩, rfl, ⟨.inl n, ?_, rfl, rfl, b5, b6, Or.inl rfl⟩, trivial⟩, fun c hc => by cases hc⟩)
  show (match eL[196]? with
    | some t => _
    | none => none) = _
  rw [el_196]
  show (if 71 < pnf 12 then some (pF g 12 196 71) else none) = _
  rw [if_pos (show 71 < pnf 12 from Nat.le_of_ble_eq_true rfl), pFi rfl, hgn]
