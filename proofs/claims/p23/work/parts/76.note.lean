/-! by hand: copies, notesRow (printed in part by wip/e2/nr.py) -/
theorem qp_0 : xe_look (xc 179) 0 = some (.iconst 0, 1, 0, 0, 0) := by decide +kernel
theorem qp_1 : xe_look (xc 179) 1 = some (.istore_n 3, 1, 0, 0, 0) := by decide +kernel
theorem qp_2 : xe_look (xc 179) 2 = some (.iload_n 3, 1, 0, 0, 0) := by decide +kernel
theorem qp_3 : xe_look (xc 179) 3 = some (.iload_n 2, 1, 0, 0, 0) := by decide +kernel
theorem qp_4 : xe_look (xc 179) 4 = some (.if_icmp .ge 15, 3, 0, 0, 0) := by decide +kernel
theorem qp_7 : xe_look (xc 179) 7 = some (.aload_n 1, 1, 0, 0, 0) := by decide +kernel
theorem qp_8 : xe_look (xc 179) 8 = some (.iload_n 3, 1, 0, 0, 0) := by decide +kernel
theorem qp_9 : xe_look (xc 179) 9 = some (.aload_n 0, 1, 0, 0, 0) := by decide +kernel
theorem qp_10 : xe_look (xc 179) 10 = some (.iload_n 3, 1, 0, 0, 0) := by decide +kernel
theorem qp_11 : xe_look (xc 179) 11 = some (.iaload, 1, 0, 0, 0) := by decide +kernel
theorem qp_12 : xe_look (xc 179) 12 = some (.iastore, 1, 0, 0, 0) := by decide +kernel
theorem qp_13 : xe_look (xc 179) 13 = some (.iinc 3 1, 3, 0, 0, 0) := by decide +kernel
theorem qp_16 : xe_look (xc 179) 16 = some (.goto (-14), 3, 0, 0, 0) := by decide +kernel
theorem qp_19 : xe_look (xc 179) 19 = some (.return_, 1, 0, 0, 0) := by decide +kernel
theorem qn_0 : xe_look (xc 224) 0 = some (.aload_n 0, 1, 0, 0, 0) := by decide +kernel
theorem qn_1 : xe_look (xc 224) 1 = some (.invokevirtual 456, 3, 0, 244, 1249) := by decide +kernel
theorem qn_4 : xe_look (xc 224) 4 = some (.lstore_n 1, 1, 0, 0, 0) := by decide +kernel
theorem qn_5 : xe_look (xc 224) 5 = some (.aload_n 0, 1, 0, 0, 0) := by decide +kernel
theorem qn_6 : xe_look (xc 224) 6 = some (.getfield 449, 3, 12, 62, 1239) := by decide +kernel
theorem qn_9 : xe_look (xc 224) 9 = some (.lconst 0, 1, 0, 0, 0) := by decide +kernel
theorem qn_10 : xe_look (xc 224) 10 = some (.lcmp, 1, 0, 0, 0) := by decide +kernel
theorem qn_11 : xe_look (xc 224) 11 = some (.ifCond .lt 13, 3, 0, 0, 0) := by decide +kernel
theorem qn_14 : xe_look (xc 224) 14 = some (.lload_n 1, 1, 0, 0, 0) := by decide +kernel
theorem qn_15 : xe_look (xc 224) 15 = some (.aload_n 0, 1, 0, 0, 0) := by decide +kernel
theorem qn_16 : xe_look (xc 224) 16 = some (.getfield 449, 3, 12, 62, 1239) := by decide +kernel
theorem qn_19 : xe_look (xc 224) 19 = some (.lcmp, 1, 0, 0, 0) := by decide +kernel
theorem qn_20 : xe_look (xc 224) 20 = some (.ifCond .lt 4, 3, 0, 0, 0) := by decide +kernel
theorem qn_23 : xe_look (xc 224) 23 = some (.return_, 1, 0, 0, 0) := by decide +kernel
theorem qn_24 : xe_look (xc 224) 24 = some (.aload_n 0, 1, 0, 0, 0) := by decide +kernel
theorem qn_25 : xe_look (xc 224) 25 = some (.lload_n 1, 1, 0, 0, 0) := by decide +kernel
theorem qn_26 : xe_look (xc 224) 26 = some (.putfield 449, 3, 12, 62, 1239) := by decide +kernel
theorem qn_29 : xe_look (xc 224) 29 = some (.aload_n 0, 1, 0, 0, 0) := by decide +kernel
theorem qn_30 : xe_look (xc 224) 30 = some (.getfield 113, 3, 12, 57, 1200) := by decide +kernel
theorem qn_33 : xe_look (xc 224) 33 = some (.aload_n 0, 1, 0, 0, 0) := by decide +kernel
theorem qn_34 : xe_look (xc 224) 34 = some (.getfield 116, 3, 12, 58, 1201) := by decide +kernel
theorem qn_37 : xe_look (xc 224) 37 = some (.bipush 7, 2, 0, 0, 0) := by decide +kernel
theorem qn_39 : xe_look (xc 224) 39 = some (.invokestatic 292, 3, 0, 179, 1228) := by decide +kernel
theorem qn_42 : xe_look (xc 224) 42 = some (.return_, 1, 0, 0, 0) := by decide +kernel
theorem el_232 : eL[232]? = some (1, 7) := by decide +kernel
theorem eg_a232 : eG (cn 232) = ((-2147483648), 2147483647, []) := by decide +kernel
theorem ok_full32 (x : Int32) : ok_v x.toInt ((-2147483648), 2147483647, []) := ⟨by have := x.le_toInt; show -2147483648 ≤ x.toInt; omega, by have := x.toInt_lt; show x.toInt ≤ 2147483647; omega, Or.inl rfl⟩
theorem ok_full64 (x : Int64) : ok_v x.toInt ((-9223372036854775808), 9223372036854775807, []) := ⟨i64_lo x, i64_hi x, Or.inl rfl⟩
/-- like h but for one row and longs of fields -/
def Kp (h g : pH) : Prop := g.1 = h.1 ∧ ∀ k, k ≠ 232 → g.2.2.2.1 k = h.2.2.2.1 k
set_option maxHeartbeats 4000000 in
theorem cp_loop {d : Nat} {W : Nat} {h0 h : pH} (hW : W.testBit (cn 232) = true) {P : Option pv × pH → Prop} (hP : ∀ g : pH, J_ W h0 g → Kp h g → P (none, g)) : ∀ (m j : Nat) (g : pH) (lv : List (Nat × pv)), j + m = 7 → J_ W h0 g → Kp h g → px_lg lv 0 = some (.inr (.inr (some 231))) → px_lg lv 1 = some (.inr (.inr (some 232))) → px_lg lv 2 = some (.inl (Int8.ofInt (7)).toInt32) → px_lg lv 3 = some (.inl (nI j)) → t_X d 179 2 lv [] g P := by
  intro m
  induction m with
  | zero =>
    intro j g lv hj hJ hK l0 l1 l2 l3
    have hlt : ¬ nI j < (Int8.ofInt (7)).toInt32 := by
      rw [show j = 7 by omega]
      decide +kernel
    refine t_0 qp_2 rfl (ld_i l3) ?_
    refine t_0 qp_3 rfl (ld_i l2) ?_
    refine t_1 qp_4 rfl (pc_ge_t (pc := 4) (by decide) hlt) ?_
    refine t_5 qp_19 rfl rfl ?_
    exact hP g hJ hK
  | succ m ih =>
    intro j g lv hj hJ hK l0 l1 l2 l3
    have hlt : nI j < (Int8.ofInt (7)).toInt32 := by
      have : ∀ j, j < 7 → nI j < (Int8.ofInt (7)).toInt32 := by decide +kernel
      exact this j (by omega)
    have hcl : ¬ (nI j < 0 ∨ 7 ≤ (nI j).toNatClampNeg) := e_clamp (by rw [nI_toInt (by omega)]; omega) (by rw [nI_toInt (by omega)]; omega)
    refine t_0 qp_2 rfl (ld_i l3) ?_
    refine t_0 qp_3 rfl (ld_i l2) ?_
    refine t_1 qp_4 rfl (pc_ge_f (pc := 4) (by decide) hlt) ?_
    show t_X d 179 7 lv [] g P
    refine t_0 qp_7 rfl (ld_a l1) ?_
    refine t_0 qp_8 rfl (ld_i l3) ?_
    refine t_0 qp_9 rfl (ld_a l0) ?_
    refine t_0 qp_10 rfl (ld_i l3) ?_
    refine t_0 qp_11 rfl (piald (by decide) el_231 hcl) ?_
    refine t_4 qp_12 rfl (piast el_232 hcl) ?_
    show t_X d 179 13 lv [] (g.1, g.2.1, g.2.2.1, pu g.2.2.2.1 232 (nI j).toNatClampNeg (g.2.2.2.1 231 (nI j).toNatClampNeg), g.2.2.2.2) P
    refine t_2 qp_13 rfl (w := (px_s1 lv 3 (.inl ((nI j) + Int32.ofInt (1))), [])) (pinc l3 (by decide)) ?_
    replace l0 : px_lg (px_s1 lv 3 (.inl ((nI j) + Int32.ofInt (1)))) 0 = some (.inr (.inr (some 231))) := s1_ne (by decide) (fun _ => rfl) l0
    replace l1 : px_lg (px_s1 lv 3 (.inl ((nI j) + Int32.ofInt (1)))) 1 = some (.inr (.inr (some 232))) := s1_ne (by decide) (fun _ => rfl) l1
    replace l2 : px_lg (px_s1 lv 3 (.inl ((nI j) + Int32.ofInt (1)))) 2 = some (.inl ((Int8.ofInt (7)).toInt32)) := s1_ne (by decide) (fun _ => rfl) l2
    have l3 : px_lg (px_s1 lv 3 (.inl ((nI j) + Int32.ofInt (1)))) 3 = some (.inl ((nI j) + Int32.ofInt (1))) := s1_eq
    generalize px_s1 lv 3 (.inl ((nI j) + Int32.ofInt (1))) = lv1 at l0 l1 l2 l3 ⊢
    show t_X d 179 16 lv1 [] (g.1, g.2.1, g.2.2.1, pu g.2.2.2.1 232 (nI j).toNatClampNeg (g.2.2.2.1 231 (nI j).toNatClampNeg), g.2.2.2.2) P
    refine t_1 qp_16 rfl (pb_goto (pc := 16) (by decide)) ?_
    show t_X d 179 2 lv1 [] (g.1, g.2.1, g.2.2.1, pu g.2.2.2.1 232 (nI j).toNatClampNeg (g.2.2.2.1 231 (nI j).toNatClampNeg), g.2.2.2.2) P
    rw [j_inc (by omega)] at l3
    refine ih (j + 1) _ _ (by omega) (J_ia hJ el_232 hW (by rw [eg_a232]; exact ok_full32 _)) ⟨hK.1, fun k hk => ?_⟩ l0 l1 l2 l3
    rw [← hK.2 k hk]
    exact pu_ne _ _ hk
theorem pFl {h : pH} {x k y : Nat} (ht : xk_ty x y = .long) : pF h x k y = .inr (.inl (h.2.1 k y)) := by
  unfold pF
  rw [ht]
theorem pputl {d i x y k : Nat} {h : pH} {r : List pv} {n : Int64} (hk : eL[k]? = some (0, x)) (ht : xk_ty x y = .long) : px_wf (.putfield i) eL d x y (.inr (.inl n) :: .inr (.inr (some k)) :: r) h = some (r, (h.1, pu h.2.1 k y n, h.2.2)) := by
  show px_put eL h x y (.inr (.inl n) :: .inr (.inr (some k)) :: r) = _
  unfold px_put
  dsimp only
  rw [if_pos hk, ht]
theorem J_putl {W : Nat} {h0 h : pH} {k x y : Nat} {n : Int64} (hj : J_ W h0 h) (hk : eL[k]? = some (0, x)) (ht : xk_ty x y = .long) (hW : W.testBit (cn k + y) = true) (hv : ok_v n.toInt (eG (cn k + y))) : J_ W h0 (h.1, pu h.2.1 k y n, h.2.2) := by
  have hw : w_f h (h.1, pu h.2.1 k y n, h.2.2) k y := ⟨fun k' y' hn => ⟨rfl, if_neg hn, rfl⟩, rfl⟩
  refine ⟨g_I_f hj.1 hw hk ?_, w_f_M hw hj.2 hW⟩
  rw [pFl ht]
  show ok_v (pu h.2.1 k y n k y).toInt _
  rw [pu_at]
  exact hv
theorem pcal_v0 {i y k : Nat} {r : List pv} (h1 : (xm y).2.2.2.2.2.2.2 = 1) (hn : (xm y).2.2.2.2.2.1 = 0) (hk : eL[k]? = some (0, (xm y).2.2.2.2.2.2.1)) : px_cal eL (.invokevirtual i) 0 y (.inr (.inr (some k)) :: r) = some ([.inr (.inr (some k))], r) := by
  unfold px_cal
  dsimp only
  rw [if_pos ⟨rfl, h1, by rw [hn]; exact Nat.zero_le _⟩, hn]
  show (if eL[k]? = some (0, (xm y).2.2.2.2.2.2.1) then _ else _) = _
  rw [if_pos hk]
  rfl
theorem eg_f58 : (eG (cn 196 + 58)).2.2 = [233] := by decide +kernel
theorem eg_f62 : eG (cn 196 + 62) = ((-9223372036854775808), 9223372036854775807, []) := by decide +kernel
set_option maxHeartbeats 4000000 in
theorem nr_run {d : Nat} (hd : 3 ≤ d) {W : Nat} {h0 h : pH} {lv : List (Nat × pv)} (hJ : J_ W h0 h) (hW : W.testBit (cn 232) = true) (hW2 : W.testBit (cn 196 + 62) = true) (hrow : ∀ j, j < 7 → 1 ≤ (h.2.2.2.1 231 j).toInt ∧ (h.2.2.2.1 231 j).toInt ≤ 7) {P : Option pv × pH → Prop} (hP : ∀ g : pH, J_ W h0 g → Kp h g → P (none, g)) (l0 : px_lg lv 0 = some (.inr (.inr (some 196)))) : t_X d 224 0 lv [] h P := by
  refine t_0 qn_0 rfl (ld_a l0) ?_
  refine t_3 qn_1 rfl (ar := ([pvR 196], [])) (pcal_v0 rfl rfl el_196) ⟨by omega, Nat.le_of_ble_eq_true rfl, Nat.le_of_ble_eq_true rfl, rfl⟩ ?_
  refine sb_run (by omega) hJ.1 hrow (fun x => ?_) rfl
  show t_X d 224 4 lv [.inr (.inl x)] h P
  refine t_2 qn_4 rfl (w := (px_s2 lv 1 (.inr (.inl (x))), [])) rfl ?_
  replace l0 : px_lg (px_s2 lv 1 (.inr (.inl (x)))) 0 = some (.inr (.inr (some 196))) := s2_ne (by decide) (fun _ => rfl) l0
  have l1 : px_lg (px_s2 lv 1 (.inr (.inl (x)))) 1 = some (.inr (.inl (x))) := s2_eq
  generalize px_s2 lv 1 (.inr (.inl (x))) = lv1 at l0 l1 ⊢
  show t_X d 224 5 lv1 [] h P
  refine t_0 qn_5 rfl (ld_a l0) ?_
  refine t_0 qn_6 rfl (pget el_196 (pFl rfl)) ?_
  refine t_0 qn_9 rfl rfl ?_
  refine t_0 qn_10 rfl rfl ?_
  have put : t_X d 224 24 lv1 [] h P := by
    have hJ2 : J_ W h0 (h.1, pu h.2.1 196 62 x, h.2.2) := J_putl hJ el_196 rfl hW2 (by rw [eg_f62]; exact ok_full64 x)
    have hr1 : pF (h.1, pu h.2.1 196 62 x, h.2.2) 12 196 57 = .inr (.inr (some 231)) := gI_r hJ2.1 el_196 (Nat.le_of_ble_eq_true rfl) rfl eg_f57
    have hr2 : pF (h.1, pu h.2.1 196 62 x, h.2.2) 12 196 58 = .inr (.inr (some 232)) := gI_r hJ2.1 el_196 (Nat.le_of_ble_eq_true rfl) rfl eg_f58
    refine t_0 qn_24 rfl (ld_a l0) ?_
    refine t_0 qn_25 rfl (ld_l l1) ?_
    refine t_4 qn_26 rfl (pputl el_196 rfl) ?_
    show t_X d 224 29 lv1 [] (h.1, pu h.2.1 196 62 x, h.2.2) P
    refine t_0 qn_29 rfl (ld_a l0) ?_
    refine t_0 qn_30 rfl (pget el_196 hr1) ?_
    refine t_0 qn_33 rfl (ld_a l0) ?_
    refine t_0 qn_34 rfl (pget el_196 hr2) ?_
    refine t_0 qn_37 rfl rfl ?_
    refine t_3 qn_39 rfl (ar := ([pvR 231, pvR 232, .inl (Int8.ofInt (7)).toInt32], [])) (pcal_s ⟨Or.inl rfl, rfl, Nat.le_of_ble_eq_true rfl⟩) ⟨by omega, Nat.le_of_ble_eq_true rfl, Nat.le_of_ble_eq_true rfl, rfl⟩ ?_
    show t_X (d - 1) 179 0 [(0, pvR 231), (1, pvR 232), (2, .inl (Int8.ofInt (7)).toInt32)] [] (h.1, pu h.2.1 196 62 x, h.2.2) _
    have k0 : px_lg [(0, pvR 231), (1, pvR 232), (2, (.inl (Int8.ofInt (7)).toInt32 : pv))] 0 = some (.inr (.inr (some 231))) := rfl
    have k1 : px_lg [(0, pvR 231), (1, pvR 232), (2, (.inl (Int8.ofInt (7)).toInt32 : pv))] 1 = some (.inr (.inr (some 232))) := rfl
    have k2 : px_lg [(0, pvR 231), (1, pvR 232), (2, (.inl (Int8.ofInt (7)).toInt32 : pv))] 2 = some (.inl (Int8.ofInt (7)).toInt32) := rfl
    refine t_0 qp_0 rfl rfl ?_
    refine t_2 qp_1 rfl (w := (px_s1 [(0, pvR 231), (1, pvR 232), (2, .inl (Int8.ofInt (7)).toInt32)] 3 (.inl (Int32.ofInt 0)), [])) rfl ?_
    refine cp_loop (h := h) hW (fun g hg hk => ?_) 7 0 _ _ rfl hJ2 ⟨rfl, fun _ _ => rfl⟩ (s1_ne (by decide) (fun _ => rfl) k0) (s1_ne (by decide) (fun _ => rfl) k1) (s1_ne (by decide) (fun _ => rfl) k2) s1_eq
    show t_X d 224 42 lv1 [] g P
    refine t_5 qn_42 rfl rfl ?_
    exact hP g hg hk
  by_cases hq : lg_cmp (h.2.1 196 62) (Int64.ofNat 0) < 0
  · refine t_1 qn_11 rfl (pb_lt_t (pc := 11) (by decide) hq) ?_
    exact put
  · refine t_1 qn_11 rfl (pb_lt_f (pc := 11) (by decide) hq) ?_
    show t_X d 224 14 lv1 [] h P
    refine t_0 qn_14 rfl (ld_l l1) ?_
    refine t_0 qn_15 rfl (ld_a l0) ?_
    refine t_0 qn_16 rfl (pget el_196 (pFl rfl)) ?_
    refine t_0 qn_19 rfl rfl ?_
    by_cases hs : lg_cmp (x) (h.2.1 196 62) < 0
    · refine t_1 qn_20 rfl (pb_lt_t (pc := 20) (by decide) hs) ?_
      exact put
    · refine t_1 qn_20 rfl (pb_lt_f (pc := 20) (by decide) hs) ?_
      refine t_5 qn_23 rfl rfl ?_
      exact hP h hJ ⟨rfl, fun _ _ => rfl⟩
