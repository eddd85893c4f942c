/-! by hand: laysTurns, its first loop (printed in part by wip/e2/l0.py) -/
theorem eg_a230 : eG (cn 230) = ((-2147483648), 2147483647, []) := by decide +kernel
theorem pcal_v4 {i y k : Nat} {a b e f : pv} {r : List pv} (h1 : (xm y).2.2.2.2.2.2.2 = 1) (hn : (xm y).2.2.2.2.2.1 = 4) (hk : eL[k]? = some (0, (xm y).2.2.2.2.2.2.1)) : px_cal eL (.invokevirtual i) 0 y (f :: e :: b :: a :: .inr (.inr (some k)) :: r) = some ([.inr (.inr (some k)), a, b, e, f], r) := by
  unfold px_cal
  dsimp only
  rw [if_pos ⟨rfl, h1, by rw [hn]; exact Nat.le_add_left 4 _⟩, hn]
  show (if eL[k]? = some (0, (xm y).2.2.2.2.2.2.1) then _ else _) = _
  rw [if_pos hk]
  rfl
set_option maxHeartbeats 4000000 in
theorem l0_loop {X : pH → Prop} (hX : x_K X eDX) {d W : Nat} (hK : k_I eG X eKT d) (hd : 12 ≤ d) (hd2 : d ≤ 1000000) {h0 : pH} (hx0 : X h0) (hDX : W &&& eDX = 0) (hV : kk_187.2.2.2.1 &&& W = kk_187.2.2.2.1) (w228 : W.testBit (cn 228) = true) (w230 : W.testBit (cn 230) = true) {i : Nat} (hi : i < 32) {P : Option pv × pH → Prop} (hC : ∀ (g : pH) (lv : List (Nat × pv)), J_ W h0 g → px_lg lv 0 = some (.inr (.inr (some 196))) → px_lg lv 1 = some (.inl (nI i)) → t_X d 216 30 lv [] g P) : ∀ (m j : Nat) (g : pH) (lv : List (Nat × pv)), j + m = 8 → J_ W h0 g → px_lg lv 0 = some (.inr (.inr (some 196))) → px_lg lv 1 = some (.inl (nI i)) → px_lg lv 2 = some (.inl (nI j)) → t_X d 216 2 lv [] g P := by
  intro m
  induction m with
  | zero =>
    intro j g lv hj hJ l0 l1 l2
    have hlt : ¬ nI j < (Int8.ofInt (8)).toInt32 := by
      rw [show j = 8 by omega]
      decide +kernel
    refine t_0 ql_2 rfl (ld_i l2) ?_
    refine t_0 ql_3 rfl rfl ?_
    refine t_1 ql_5 rfl (pc_ge_t (pc := 5) (by decide) hlt) ?_
    exact hC g lv hJ l0 l1
  | succ m ih =>
    intro j g lv hj hJ l0 l1 l2
    have hlt : nI j < (Int8.ofInt (8)).toInt32 := by
      have : ∀ j, j < 8 → nI j < (Int8.ofInt (8)).toInt32 := by decide +kernel
      exact this j (by omega)
    have hcl : ¬ (nI j < 0 ∨ 8 ≤ (nI j).toNatClampNeg) := e_clamp (by rw [nI_toInt (by omega)]; omega) (by rw [nI_toInt (by omega)]; omega)
    have ht := gI_r (r := 230) hJ.1 el_196 (Nat.le_of_ble_eq_true rfl) (y := 56) rfl eg_f56
    refine t_0 ql_2 rfl (ld_i l2) ?_
    refine t_0 ql_3 rfl rfl ?_
    refine t_1 ql_5 rfl (pc_ge_f (pc := 5) (by decide) hlt) ?_
    show t_X d 216 8 lv [] g P
    refine t_0 ql_8 rfl (ld_a l0) ?_
    refine t_0 ql_9 rfl (pget el_196 ht) ?_
    refine t_0 ql_12 rfl (ld_i l2) ?_
    refine t_0 ql_13 rfl (ld_a l0) ?_
    refine t_0 ql_14 rfl (ld_i l1) ?_
    refine t_0 ql_15 rfl (ld_i l2) ?_
    refine t_0 ql_16 rfl rfl ?_
    refine t_0 ql_18 rfl rfl ?_
    refine t_3 ql_20 rfl (ar := ([pvR 196, .inl (nI i), .inl (nI j), .inl ((Int8.ofInt (116)).toInt32), .inl ((Int8.ofInt (99)).toInt32)], [.inl (nI j), pvR 230])) (pcal_v4 rfl rfl el_196) ⟨by omega, Nat.le_of_ble_eq_true rfl, Nat.le_of_ble_eq_true rfl, rfl⟩ ?_
    refine asks_run hX (fun d' h' => hK d' (by omega)) (by omega) (by omega) hx0 hDX hV w228 hJ hi (by decide +kernel) rfl rfl rfl rfl rfl (fun g1 r hJ1 => ?_)
    show t_X d 216 23 lv [.inl r, .inl (nI j), pvR 230] g1 P
    refine t_ia ql_23 hJ1 el_230 w230 (by rw [eg_a230]; exact ok_full32 _) hcl (fun g2 hJ2 _ _ _ => ?_)
    show t_X d 216 24 lv [] g2 P
    refine t_2 ql_24 rfl (w := (px_s1 lv 2 (.inl ((nI j) + Int32.ofInt (1))), [])) (pinc l2 (by decide)) ?_
    replace l0 : px_lg (px_s1 lv 2 (.inl ((nI j) + Int32.ofInt (1)))) 0 = some (.inr (.inr (some 196))) := s1_ne (by decide) (fun _ => rfl) l0
    replace l1 : px_lg (px_s1 lv 2 (.inl ((nI j) + Int32.ofInt (1)))) 1 = some (.inl (nI i)) := s1_ne (by decide) (fun _ => rfl) l1
    have l2 : px_lg (px_s1 lv 2 (.inl ((nI j) + Int32.ofInt (1)))) 2 = some (.inl ((nI j) + Int32.ofInt (1))) := s1_eq
    generalize px_s1 lv 2 (.inl ((nI j) + Int32.ofInt (1))) = lv1 at l0 l1 l2 ⊢
    show t_X d 216 27 lv1 [] g2 P
    refine t_1 ql_27 rfl (pb_goto (pc := 27) (by decide)) ?_
    show t_X d 216 2 lv1 [] g2 P
    rw [j_inc (by omega)] at l2
    exact ih (j + 1) _ _ (by omega) hJ2 l0 l1 l2
