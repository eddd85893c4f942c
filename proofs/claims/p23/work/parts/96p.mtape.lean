/-! the tie: the tape behind tray, law, spilt, says of the reference (printed by wip/e2/t7.py out of parts 87, 89, 94) -/
set_option maxHeartbeats 4000000 in
theorem ty9_e {d : Nat} (hd : 1 ≤ d) {h0 : pH} {P : Option pv × pH → Prop} (hP : ∀ (g1 : pH) (z : Int), J_ Wt h0 g1 → fF g1 17 = 0 → P (some (oI z), g1)) {g : pH} (hJ : J_ Wt h0 g) {x : Int} (hx : x = 0 ∨ (x = 1 ∧ tJ g)) {lv : List (Nat × pv)} (l0 : px_lg lv 0 = some (pvR 196)) (l2 : px_lg lv 2 = some (oI x)) : t_X d 264 92 lv [] g P := by
  obtain ⟨w_17, w_18, w_19, w_20, w_21, w_24, w_25, w_26⟩ := Wt_f
  obtain ⟨w_a212, w_a213, w_a214, w_a215, -⟩ := Wt_a
  rcases hx with rfl | ⟨rfl, hT⟩
  · refine t_0 qty_92 rfl (ld_a l0) ?_
    refine t_0 qty_93 rfl rfl ?_
    refine tw_f qty_94 rfl hJ w_17 gf_17 (by decide) ⟨by omega, by omega⟩ (fun g1 hJ1 v1 f1 a1 => ?_)
    replace a1 := fA_2 a1
    have q1_18 := f1 18 (by decide)
    have q1_19 := f1 19 (by decide)
    have q1_25 := f1 25 (by decide)
    have q1_26 := f1 26 (by decide)
    show t_X d 264 97 lv [] g1 P
    refine t_0 qty_97 rfl (ld_i l2) ?_
    refine tz_ne qty_98 (by decide) ⟨by omega, by omega⟩ (fun c2 => absurd c2 (by omega)) (fun c2 => ?_)
    show t_X d 264 101 lv [] g1 P
    refine t_0 qty_101 rfl (ld_a l0) ?_
    have r3 := fF_b g1 20
    refine t_0 qty_102 rfl (pq_gf (y := 20) rfl) ?_
    refine t_5 qty_105 rfl rfl ?_
    exact hP _ _ hJ1 v1
  · have hT1 := hT.1
    refine t_0 qty_92 rfl (ld_a l0) ?_
    refine t_0 qty_93 rfl rfl ?_
    refine tw_f qty_94 rfl hJ w_17 gf_17 (by decide) ⟨by omega, by omega⟩ (fun g1 hJ1 v1 f1 a1 => ?_)
    replace a1 := fA_2 a1
    have q1_18 := f1 18 (by decide)
    have q1_19 := f1 19 (by decide)
    have q1_25 := f1 25 (by decide)
    have q1_26 := f1 26 (by decide)
    show t_X d 264 97 lv [] g1 P
    refine t_0 qty_97 rfl (ld_i l2) ?_
    refine tz_ne qty_98 (by decide) ⟨by omega, by omega⟩ (fun c2 => ?_) (fun c2 => absurd c2 (by omega))
    show t_X d 264 106 lv [] g1 P
    refine t_0 qty_106 rfl (ld_a l0) ?_
    refine t_0 qty_107 rfl (ld_a l0) ?_
    have r3 := fF_b g1 25
    refine t_0 qty_108 rfl (pq_gf (y := 25) rfl) ?_
    refine tw_f qty_111 rfl hJ1 w_24 gf_24 (by decide) ⟨by omega, by omega⟩ (fun g4 hJ4 v4 f4 a4 => ?_)
    replace a4 := fA_2 a4
    have q4_18 := f4 18 (by decide)
    have q4_19 := f4 19 (by decide)
    have q4_25 := f4 25 (by decide)
    have q4_26 := f4 26 (by decide)
    show t_X d 264 114 lv [] g4 P
    refine t_0 qty_114 rfl (ld_a l0) ?_
    refine t_0 qty_115 rfl (ar_28 hJ4.1) ?_
    refine t_0 qty_118 rfl (ld_a l0) ?_
    refine t_0 qty_119 rfl (ar_27 hJ4.1) ?_
    refine t_0 qty_122 rfl (ld_a l0) ?_
    have r5 := fF_b g4 25
    refine t_0 qty_123 rfl (pq_gf (y := 25) rfl) ?_
    refine t_3 qty_126 rfl (ar := ([pvR 213, pvR 212, oI (fF g4 25)], [])) (pcal_s ⟨Or.inl rfl, rfl, Nat.le_of_ble_eq_true rfl⟩) ⟨by omega, Nat.le_of_ble_eq_true rfl, Nat.le_of_ble_eq_true rfl, rfl⟩ ?_
    refine t_0 qcp_0 rfl rfl ?_
    refine t_2 qcp_1 rfl (w := (px_s1 _ 3 (oI 0), [])) rfl ?_
    refine cy_loop (h := g4) (n := fF g4 25) (by omega) (fun g6 hJ6 f6 => ?_) 60 0 _ _ (by omega) (by omega) (by omega) hJ4 ?_ (fun _ => rfl) (s1_ne (by decide) (fun _ => rfl) rfl) (s1_ne (by decide) (fun _ => rfl) rfl) (s1_ne (by decide) (fun _ => rfl) rfl) s1_eq
    · show t_X d 264 129 lv [] g6 P
      refine t_0 qty_129 rfl (ld_a l0) ?_
      have r7 := fF_b g6 25
      refine t_0 qty_130 rfl (pq_gf (y := 25) rfl) ?_
      refine t_5 qty_133 rfl rfl ?_
      exact hP _ _ hJ6 (by rw [f6 17, f4 17 (by decide)]; exact v1)
    · intro j hj
      rw [a4, a1]
      exact hT.2.1 j (by omega)
theorem ty9_z {d : Nat} (hd : 1 ≤ d) {h0 : pH} {P : Option pv × pH → Prop} (hP : ∀ (g1 : pH) (z : Int), J_ Wt h0 g1 → fF g1 17 = 0 → P (some (oI z), g1)) {g : pH} (hJ : J_ Wt h0 g) {lv : List (Nat × pv)} (l0 : px_lg lv 0 = some (pvR 196)) (l2 : px_lg lv 2 = some (oI 0)) : t_X d 264 45 lv [] g P := by
  refine t_0 qty_45 rfl (ld_i l2) ?_
  refine tz_eq qty_46 (by decide) ⟨by omega, by omega⟩ (fun c1 => ?_) (fun c1 => absurd c1 (by omega))
  show t_X d 264 92 lv [] g P
  exact ty9_e hd hP hJ (Or.inl rfl) l0 l2
set_option maxHeartbeats 4000000 in
theorem ty9_l {d : Nat} (hd : 6 ≤ d) {h0 : pH} {N : Int} (hN : 0 ≤ N ∧ N ≤ 240) {P : Option pv × pH → Prop} (hP : ∀ (g1 : pH) (z : Int), J_ Wt h0 g1 → fF g1 17 = 0 → P (some (oI z), g1)) : ∀ (m : Nat) (g : pH) (lv : List (Nat × pv)), N + 1 - fF g 18 ≤ m → 0 ≤ fF g 18 ∧ fF g 18 ≤ N ∧ fF g 19 = N → tJ g → J_ Wt h0 g → px_lg lv 0 = some (pvR 196) → px_lg lv 2 = some (oI 1) → t_X d 264 45 lv [] g P := by
  obtain ⟨w_17, w_18, w_19, w_20, w_21, w_24, w_25, w_26⟩ := Wt_f
  obtain ⟨w_a212, w_a213, w_a214, w_a215, -⟩ := Wt_a
  intro m
  induction m with
  | zero =>
    intro g lv hm hp hT hJ l0 l2
    omega
  | succ m ih =>
    intro g lv hm hp hT hJ l0 l2
    have hT1 := hT.1
    refine t_0 qty_45 rfl (ld_i l2) ?_
    refine tz_eq qty_46 (by decide) ⟨by omega, by omega⟩ (fun c1 => absurd c1 (by omega)) (fun c1 => ?_)
    show t_X d 264 49 lv [] g P
    refine t_0 qty_49 rfl (ld_a l0) ?_
    have r2 := fF_b g 18
    refine t_0 qty_50 rfl (pq_gf (y := 18) rfl) ?_
    refine t_0 qty_53 rfl (ld_a l0) ?_
    have r3 := fF_b g 19
    refine t_0 qty_54 rfl (pq_gf (y := 19) rfl) ?_
    refine tb_lt qty_57 (by decide) ⟨by omega, by omega⟩ ⟨by omega, by omega⟩ (fun c4 => ?_) (fun c4 => ?_)
    · show t_X d 264 67 lv [] g P
      refine t_0 qty_67 rfl (ld_a l0) ?_
      refine t_0 qty_68 rfl (pq_b (by decide)) ?_
      refine t_3 qty_70 rfl (ar := ([pvR 196, oI (44)], [])) (pcal_v1 rfl rfl el_196) ⟨by omega, Nat.le_of_ble_eq_true rfl, Nat.le_of_ble_eq_true rfl, rfl⟩ ?_
      refine tk_run (by omega) hJ w_18 w_20 (by omega) (by omega) (by decide) (fun g5 p5 u5 hJ5 f5 a5 => ?_) (fun g50005 hJ50005 => ?_) rfl rfl
      · have q5_19 := f5 19 (by decide)
        have q5_25 := f5 25 (by decide)
        have q5_26 := f5 26 (by decide)
        have T5 : tJ g5 := by
          unfold tJ
          rw [q5_25, q5_26, a5]
          exact hT
        show t_X d 264 73 lv [oI (1)] g5 P
        refine tz_eq qty_73 (by decide) ⟨by omega, by omega⟩ (fun c6 => absurd c6 (by omega)) (fun c6 => ?_)
        show t_X d 264 76 lv [] g5 P
        refine t_0 qty_76 rfl (ld_a l0) ?_
        refine t_3 qty_77 rfl (ar := ([pvR 196], [])) (pcal_v0 rfl rfl el_196) ⟨by omega, Nat.le_of_ble_eq_true rfl, Nat.le_of_ble_eq_true rfl, rfl⟩ ?_
        refine ri_o (by omega) (h := g5) (fun g7 T7 p7 u7 x7 hJ7 => ?_) (fun g50007 hJ50007 => ?_) 241 _ _ (by omega) (by omega) T5 hJ5 rfl
        · show t_X d 264 80 lv [oI (1)] g7 P
          refine tz_eq qty_80 (by decide) ⟨by omega, by omega⟩ (fun c8 => absurd c8 (by omega)) (fun c8 => ?_)
          show t_X d 264 83 lv [] g7 P
          refine t_0 qty_83 rfl rfl ?_
          refine t_1 qty_84 rfl (pb_goto (pc := 84) (by decide)) ?_
          show t_X d 264 88 lv [oI (1)] g7 P
          refine t_2 qty_88 rfl (w := (px_s1 lv 2 (oI (1)), [])) rfl ?_
          replace l0 : px_lg (px_s1 lv 2 (oI (1))) 0 = some (pvR 196) := s1_ne (by decide) (fun _ => rfl) l0
          have l2 : px_lg (px_s1 lv 2 (oI (1))) 2 = some (oI (1)) := s1_eq
          generalize px_s1 lv 2 (oI (1)) = lv9 at l0 l2 ⊢
          show t_X d 264 89 lv9 [] g7 P
          refine t_1 qty_89 rfl (pb_goto (pc := 89) (by decide)) ?_
          show t_X d 264 45 lv9 [] g7 P
          exact ih _ _ (by omega) (by omega) T7 hJ7 l0 l2
        · show t_X d 264 80 lv [oI (0)] g50007 P
          refine tz_eq qty_80 (by decide) ⟨by omega, by omega⟩ (fun c10 => ?_) (fun c10 => absurd c10 (by omega))
          show t_X d 264 87 lv [] g50007 P
          refine t_0 qty_87 rfl rfl ?_
          refine t_2 qty_88 rfl (w := (px_s1 lv 2 (oI (0)), [])) rfl ?_
          replace l0 : px_lg (px_s1 lv 2 (oI (0))) 0 = some (pvR 196) := s1_ne (by decide) (fun _ => rfl) l0
          have l2 : px_lg (px_s1 lv 2 (oI (0))) 2 = some (oI (0)) := s1_eq
          generalize px_s1 lv 2 (oI (0)) = lv11 at l0 l2 ⊢
          show t_X d 264 89 lv11 [] g50007 P
          refine t_1 qty_89 rfl (pb_goto (pc := 89) (by decide)) ?_
          show t_X d 264 45 lv11 [] g50007 P
          exact ty9_z (by omega) hP hJ50007 l0 l2
      · show t_X d 264 73 lv [oI (0)] g50005 P
        refine tz_eq qty_73 (by decide) ⟨by omega, by omega⟩ (fun c12 => ?_) (fun c12 => absurd c12 (by omega))
        show t_X d 264 87 lv [] g50005 P
        refine t_0 qty_87 rfl rfl ?_
        refine t_2 qty_88 rfl (w := (px_s1 lv 2 (oI (0)), [])) rfl ?_
        replace l0 : px_lg (px_s1 lv 2 (oI (0))) 0 = some (pvR 196) := s1_ne (by decide) (fun _ => rfl) l0
        have l2 : px_lg (px_s1 lv 2 (oI (0))) 2 = some (oI (0)) := s1_eq
        generalize px_s1 lv 2 (oI (0)) = lv13 at l0 l2 ⊢
        show t_X d 264 89 lv13 [] g50005 P
        refine t_1 qty_89 rfl (pb_goto (pc := 89) (by decide)) ?_
        show t_X d 264 45 lv13 [] g50005 P
        exact ty9_z (by omega) hP hJ50005 l0 l2
    · show t_X d 264 60 lv [] g P
      refine t_0 qty_60 rfl (ld_a l0) ?_
      have r14 := fF_b g 26
      refine t_0 qty_61 rfl (pq_gf (y := 26) rfl) ?_
      refine tz_le qty_64 (by decide) ⟨by omega, by omega⟩ (fun c15 => ?_) (fun c15 => ?_)
      · show t_X d 264 92 lv [] g P
        exact ty9_e (by omega) hP hJ (Or.inr ⟨rfl, hT⟩) l0 l2
      · show t_X d 264 67 lv [] g P
        refine t_0 qty_67 rfl (ld_a l0) ?_
        refine t_0 qty_68 rfl (pq_b (by decide)) ?_
        refine t_3 qty_70 rfl (ar := ([pvR 196, oI (44)], [])) (pcal_v1 rfl rfl el_196) ⟨by omega, Nat.le_of_ble_eq_true rfl, Nat.le_of_ble_eq_true rfl, rfl⟩ ?_
        refine tk_run (by omega) hJ w_18 w_20 (by omega) (by omega) (by decide) (fun g16 p16 u16 hJ16 f16 a16 => ?_) (fun g50016 hJ50016 => ?_) rfl rfl
        · have q16_19 := f16 19 (by decide)
          have q16_25 := f16 25 (by decide)
          have q16_26 := f16 26 (by decide)
          have T16 : tJ g16 := by
            unfold tJ
            rw [q16_25, q16_26, a16]
            exact hT
          show t_X d 264 73 lv [oI (1)] g16 P
          refine tz_eq qty_73 (by decide) ⟨by omega, by omega⟩ (fun c17 => absurd c17 (by omega)) (fun c17 => ?_)
          show t_X d 264 76 lv [] g16 P
          refine t_0 qty_76 rfl (ld_a l0) ?_
          refine t_3 qty_77 rfl (ar := ([pvR 196], [])) (pcal_v0 rfl rfl el_196) ⟨by omega, Nat.le_of_ble_eq_true rfl, Nat.le_of_ble_eq_true rfl, rfl⟩ ?_
          refine ri_o (by omega) (h := g16) (fun g18 T18 p18 u18 x18 hJ18 => ?_) (fun g50018 hJ50018 => ?_) 241 _ _ (by omega) (by omega) T16 hJ16 rfl
          · show t_X d 264 80 lv [oI (1)] g18 P
            refine tz_eq qty_80 (by decide) ⟨by omega, by omega⟩ (fun c19 => absurd c19 (by omega)) (fun c19 => ?_)
            show t_X d 264 83 lv [] g18 P
            refine t_0 qty_83 rfl rfl ?_
            refine t_1 qty_84 rfl (pb_goto (pc := 84) (by decide)) ?_
            show t_X d 264 88 lv [oI (1)] g18 P
            refine t_2 qty_88 rfl (w := (px_s1 lv 2 (oI (1)), [])) rfl ?_
            replace l0 : px_lg (px_s1 lv 2 (oI (1))) 0 = some (pvR 196) := s1_ne (by decide) (fun _ => rfl) l0
            have l2 : px_lg (px_s1 lv 2 (oI (1))) 2 = some (oI (1)) := s1_eq
            generalize px_s1 lv 2 (oI (1)) = lv20 at l0 l2 ⊢
            show t_X d 264 89 lv20 [] g18 P
            refine t_1 qty_89 rfl (pb_goto (pc := 89) (by decide)) ?_
            show t_X d 264 45 lv20 [] g18 P
            exact ih _ _ (by omega) (by omega) T18 hJ18 l0 l2
          · show t_X d 264 80 lv [oI (0)] g50018 P
            refine tz_eq qty_80 (by decide) ⟨by omega, by omega⟩ (fun c21 => ?_) (fun c21 => absurd c21 (by omega))
            show t_X d 264 87 lv [] g50018 P
            refine t_0 qty_87 rfl rfl ?_
            refine t_2 qty_88 rfl (w := (px_s1 lv 2 (oI (0)), [])) rfl ?_
            replace l0 : px_lg (px_s1 lv 2 (oI (0))) 0 = some (pvR 196) := s1_ne (by decide) (fun _ => rfl) l0
            have l2 : px_lg (px_s1 lv 2 (oI (0))) 2 = some (oI (0)) := s1_eq
            generalize px_s1 lv 2 (oI (0)) = lv22 at l0 l2 ⊢
            show t_X d 264 89 lv22 [] g50018 P
            refine t_1 qty_89 rfl (pb_goto (pc := 89) (by decide)) ?_
            show t_X d 264 45 lv22 [] g50018 P
            exact ty9_z (by omega) hP hJ50018 l0 l2
        · show t_X d 264 73 lv [oI (0)] g50016 P
          refine tz_eq qty_73 (by decide) ⟨by omega, by omega⟩ (fun c23 => ?_) (fun c23 => absurd c23 (by omega))
          show t_X d 264 87 lv [] g50016 P
          refine t_0 qty_87 rfl rfl ?_
          refine t_2 qty_88 rfl (w := (px_s1 lv 2 (oI (0)), [])) rfl ?_
          replace l0 : px_lg (px_s1 lv 2 (oI (0))) 0 = some (pvR 196) := s1_ne (by decide) (fun _ => rfl) l0
          have l2 : px_lg (px_s1 lv 2 (oI (0))) 2 = some (oI (0)) := s1_eq
          generalize px_s1 lv 2 (oI (0)) = lv24 at l0 l2 ⊢
          show t_X d 264 89 lv24 [] g50016 P
          refine t_1 qty_89 rfl (pb_goto (pc := 89) (by decide)) ?_
          show t_X d 264 45 lv24 [] g50016 P
          exact ty9_z (by omega) hP hJ50016 l0 l2
set_option maxHeartbeats 8000000 in
theorem ty9_run {d : Nat} (hd : 8 ≤ d) {g : pH} (hG : g_I eG g) {n : Int} (hn : -2147483648 ≤ n ∧ n ≤ 2147483647) {P : Option pv × pH → Prop} (hA : (1 ≤ n ∧ n ≤ 120) ∧ n ≤ fF g 17 → ∀ (g1 : pH) (z : Int), J_ Wt g g1 → fF g1 17 = 0 → P (some (oI z), g1)) (hR : ¬ ((1 ≤ n ∧ n ≤ 120) ∧ n ≤ fF g 17) → P (some (oI (-1)), g)) {lv : List (Nat × pv)} (l0 : px_lg lv 0 = some (pvR 196)) (l1 : px_lg lv 1 = some (oI n)) : t_X d 264 0 lv [] g P := by
  obtain ⟨w_17, w_18, w_19, w_20, w_21, w_24, w_25, w_26⟩ := Wt_f
  obtain ⟨w_a212, w_a213, w_a214, w_a215, -⟩ := Wt_a
  have hJ0 : J_ Wt g g := J_rf hG
  refine t_0 qty_0 rfl (ld_i l1) ?_
  refine t_0 qty_1 rfl rfl ?_
  refine t_0 qty_2 rfl (pq_b (by decide)) ?_
  refine t_3 qty_4 rfl (ar := ([oI (n), oI (1), oI (120)], [])) (pcal_s ⟨Or.inl rfl, rfl, Nat.le_of_ble_eq_true rfl⟩) ⟨by omega, Nat.le_of_ble_eq_true rfl, Nat.le_of_ble_eq_true rfl, rfl⟩ ?_
  refine in_run ⟨by omega, by omega⟩ ⟨by omega, by omega⟩ ⟨by omega, by omega⟩ rfl rfl rfl (fun t1 => ?_) (fun t1 => ?_)
  · show t_X d 264 7 lv [oI (1)] g P
    refine tz_eq qty_7 (by decide) ⟨by omega, by omega⟩ (fun c2 => absurd c2 (by omega)) (fun c2 => ?_)
    show t_X d 264 10 lv [] g P
    refine t_0 qty_10 rfl (ld_i l1) ?_
    refine t_0 qty_11 rfl (ld_a l0) ?_
    have r3 := gb_f hJ0.1 (y := 17) rfl rfl gf_17
    refine t_0 qty_12 rfl (pq_gf (y := 17) rfl) ?_
    refine tb_le qty_15 (by decide) ⟨by omega, by omega⟩ ⟨by omega, by omega⟩ (fun c4 => ?_) (fun c4 => ?_)
    · show t_X d 264 20 lv [] g P
      refine t_0 qty_20 rfl (ld_a l0) ?_
      refine t_0 qty_21 rfl rfl ?_
      refine tw_f qty_22 rfl hJ0 w_18 gf_18 (by decide) ⟨by omega, by omega⟩ (fun g5 hJ5 v5 f5 a5 => ?_)
      replace a5 := fA_2 a5
      have q5_19 := f5 19 (by decide)
      have q5_25 := f5 25 (by decide)
      have q5_26 := f5 26 (by decide)
      show t_X d 264 25 lv [] g5 P
      refine t_0 qty_25 rfl (ld_a l0) ?_
      refine t_0 qty_26 rfl (ld_i l1) ?_
      refine tw_f qty_27 rfl hJ5 w_19 gf_19 (by decide) ⟨by omega, by omega⟩ (fun g6 hJ6 v6 f6 a6 => ?_)
      replace a6 := fA_2 a6
      have q6_18 := f6 18 (by decide)
      have q6_25 := f6 25 (by decide)
      have q6_26 := f6 26 (by decide)
      show t_X d 264 30 lv [] g6 P
      refine t_0 qty_30 rfl (ld_a l0) ?_
      refine t_0 qty_31 rfl rfl ?_
      refine tw_f qty_32 rfl hJ6 w_25 gf_25 (by decide) ⟨by omega, by omega⟩ (fun g7 hJ7 v7 f7 a7 => ?_)
      replace a7 := fA_2 a7
      have q7_18 := f7 18 (by decide)
      have q7_19 := f7 19 (by decide)
      have q7_26 := f7 26 (by decide)
      show t_X d 264 35 lv [] g7 P
      refine t_0 qty_35 rfl (ld_a l0) ?_
      refine t_0 qty_36 rfl rfl ?_
      refine tw_f qty_37 rfl hJ7 w_26 gf_26 (by decide) ⟨by omega, by omega⟩ (fun g8 hJ8 v8 f8 a8 => ?_)
      replace a8 := fA_2 a8
      have q8_18 := f8 18 (by decide)
      have q8_19 := f8 19 (by decide)
      have q8_25 := f8 25 (by decide)
      show t_X d 264 40 lv [] g8 P
      have T0 : tJ g8 := ⟨by omega, fun j hj => absurd hj (by omega), fun j hj => absurd hj (by omega)⟩
      refine t_0 qty_40 rfl (ld_a l0) ?_
      refine t_3 qty_41 rfl (ar := ([pvR 196], [])) (pcal_v0 rfl rfl el_196) ⟨by omega, Nat.le_of_ble_eq_true rfl, Nat.le_of_ble_eq_true rfl, rfl⟩ ?_
      refine ri_o (by omega) (h := g8) (fun g9 T9 p9 u9 x9 hJ9 => ?_) (fun g50009 hJ50009 => ?_) 241 _ _ (by omega) (by omega) T0 hJ8 rfl
      · show t_X d 264 44 lv [oI (1)] g9 P
        refine t_2 qty_44 rfl (w := (px_s1 lv 2 (oI (1)), [])) rfl ?_
        replace l0 : px_lg (px_s1 lv 2 (oI (1))) 0 = some (pvR 196) := s1_ne (by decide) (fun _ => rfl) l0
        replace l1 : px_lg (px_s1 lv 2 (oI (1))) 1 = some (oI (n)) := s1_ne (by decide) (fun _ => rfl) l1
        have l2 : px_lg (px_s1 lv 2 (oI (1))) 2 = some (oI (1)) := s1_eq
        generalize px_s1 lv 2 (oI (1)) = lv10 at l0 l1 l2 ⊢
        show t_X d 264 45 lv10 [] g9 P
        exact ty9_l (by omega) (N := n) (by omega) (hA (by omega)) 241 _ _ (by omega) (by omega) T9 hJ9 l0 l2
      · show t_X d 264 44 lv [oI (0)] g50009 P
        refine t_2 qty_44 rfl (w := (px_s1 lv 2 (oI (0)), [])) rfl ?_
        replace l0 : px_lg (px_s1 lv 2 (oI (0))) 0 = some (pvR 196) := s1_ne (by decide) (fun _ => rfl) l0
        replace l1 : px_lg (px_s1 lv 2 (oI (0))) 1 = some (oI (n)) := s1_ne (by decide) (fun _ => rfl) l1
        have l2 : px_lg (px_s1 lv 2 (oI (0))) 2 = some (oI (0)) := s1_eq
        generalize px_s1 lv 2 (oI (0)) = lv11 at l0 l1 l2 ⊢
        show t_X d 264 45 lv11 [] g50009 P
        exact ty9_z (by omega) (hA (by omega)) hJ50009 l0 l2
    · show t_X d 264 18 lv [] g P
      refine t_0 qty_18 rfl rfl ?_
      refine t_5 qty_19 rfl rfl ?_
      exact hR (by omega)
  · show t_X d 264 7 lv [oI (0)] g P
    refine tz_eq qty_7 (by decide) ⟨by omega, by omega⟩ (fun c12 => ?_) (fun c12 => absurd c12 (by omega))
    show t_X d 264 18 lv [] g P
    refine t_0 qty_18 rfl rfl ?_
    refine t_5 qty_19 rfl rfl ?_
    exact hR (by omega)

set_option maxHeartbeats 16000000 in
theorem lw9_2 {d : Nat} {h0 b cb : pH} (hI : qI b) (h35b : fF cb 35 = fF b 34) (h34b : fF cb 34 = fF b 34) (hc : ∀ u : Nat, (u : Int) < fF b 32 → fA cb 222 u = fA b 216 u) {P : Option pv × pH → Prop} (h17b : fF cb 17 = 0) (hP : ∀ (g1 : pH) (z : Int), J_ WL h0 g1 → xL g1 → fF g1 17 = 0 → P (some (oI z), g1)) : ∀ (m k : Nat) (g : pH) (lv : List (Nat × pv)), fF b 34 - k ≤ m → (k : Int) ≤ 16 → J_ WL h0 g → (∀ u, fF g u = fF cb u) → (fA g 222 = fA cb 222 ∧ fA g 219 = fA b 219 ∧ fA g 220 = fA b 220 ∧ fA g 221 = fA b 221) → (∀ j : Nat, j < k → fA g 224 j = fA b 219 j ∧ fA g 225 j = fA b 220 j ∧ fA g 226 j = fA b 221 j) → px_lg lv 0 = some (pvR 196) → px_lg lv 3 = some (oI (k : Int)) → t_X d 213 138 lv [] g P := by
  obtain ⟨w_35, w_a222, w_a223, w_a224, w_a225, w_a226⟩ := WL_f
  have hI1 := hI.1
  intro m
  induction m with
  | zero =>
    intro k g lv hm hk hJ hF hA hB l0 l3
    have hf34 := hF 34
    refine t_0 qlw_138 rfl (ld_i l3) ?_
    refine t_0 qlw_139 rfl (ld_a l0) ?_
    have r1 := fF_b g 34
    refine t_0 qlw_140 rfl (pq_gf (y := 34) rfl) ?_
    refine tb_ge qlw_143 (by decide) ⟨by omega, by omega⟩ ⟨by omega, by omega⟩ (fun c2 => ?_) (fun c2 => absurd c2 (by omega))
    show t_X d 213 200 lv [] g P
    refine t_0 qlw_200 rfl (ld_a l0) ?_
    have r3 := fF_b g 34
    refine t_0 qlw_201 rfl (pq_gf (y := 34) rfl) ?_
    refine t_5 qlw_204 rfl rfl ?_
    refine hP _ _ hJ ?_ (by rw [hF 17]; exact h17b)
    intro q hq
    have h35 := hF 35
    have h34 := hF 34
    have h32 := hF 32
    obtain ⟨D1, D2, y1, y2, y3⟩ := hI.2 q (by omega)
    obtain ⟨x1, x2, x3⟩ := hB q (by omega)
    have z1 := y2.2.1
    rw [x1, x2, x3, hA.1]
    exact ⟨D1, D2, cOK_e y1 (fun u u1 u2 => hc u (by omega)), cOK_e y2 (fun u u1 u2 => hc u (by omega))⟩
  | succ m ih =>
    intro k g lv hm hk hJ hF hA hB l0 l3
    have hf34 := hF 34
    by_cases hks : fF b 34 ≤ k
    · refine t_0 qlw_138 rfl (ld_i l3) ?_
      refine t_0 qlw_139 rfl (ld_a l0) ?_
      have r1 := fF_b g 34
      refine t_0 qlw_140 rfl (pq_gf (y := 34) rfl) ?_
      refine tb_ge qlw_143 (by decide) ⟨by omega, by omega⟩ ⟨by omega, by omega⟩ (fun c2 => ?_) (fun c2 => absurd c2 (by omega))
      show t_X d 213 200 lv [] g P
      refine t_0 qlw_200 rfl (ld_a l0) ?_
      have r3 := fF_b g 34
      refine t_0 qlw_201 rfl (pq_gf (y := 34) rfl) ?_
      refine t_5 qlw_204 rfl rfl ?_
      refine hP _ _ hJ ?_ (by rw [hF 17]; exact h17b)
      intro q hq
      have h35 := hF 35
      have h34 := hF 34
      have h32 := hF 32
      obtain ⟨D1, D2, y1, y2, y3⟩ := hI.2 q (by omega)
      obtain ⟨x1, x2, x3⟩ := hB q (by omega)
      have z1 := y2.2.1
      rw [x1, x2, x3, hA.1]
      exact ⟨D1, D2, cOK_e y1 (fun u u1 u2 => hc u (by omega)), cOK_e y2 (fun u u1 u2 => hc u (by omega))⟩
    refine t_0 qlw_138 rfl (ld_i l3) ?_
    refine t_0 qlw_139 rfl (ld_a l0) ?_
    have r1 := fF_b g 34
    refine t_0 qlw_140 rfl (pq_gf (y := 34) rfl) ?_
    refine tb_ge qlw_143 (by decide) ⟨by omega, by omega⟩ ⟨by omega, by omega⟩ (fun c2 => absurd c2 (by omega)) (fun c2 => ?_)
    show t_X d 213 146 lv [] g P
    refine t_0 qlw_146 rfl (ld_a l0) ?_
    refine t_0 qlw_147 rfl (ar_43 hJ.1) ?_
    refine t_0 qlw_150 rfl (ld_i l3) ?_
    refine t_0 qlw_151 rfl (ld_a l0) ?_
    refine t_0 qlw_152 rfl (ar_38 hJ.1) ?_
    refine t_0 qlw_155 rfl (ld_i l3) ?_
    refine t_0 qlw_156 rfl (pq_ia el_218 rfl ⟨by omega, by omega⟩) ?_
    have r3 := fA_b g 218 (k : Int).toNat
    refine tw_a qlw_157 hJ el_223 rfl w_a223 ga_223 (by decide) ⟨by omega, by omega⟩ ⟨by omega, by omega⟩ (fun g4 hJ4 a4 v4 b4 f4 => ?_)
    replace f4 := fF_1 f4
    have q4_32 := congrFun f4 32
    have q4_34 := congrFun f4 34
    show t_X d 213 158 lv [] g4 P
    refine t_0 qlw_158 rfl (ld_a l0) ?_
    refine t_0 qlw_159 rfl (ar_44 hJ4.1) ?_
    refine t_0 qlw_162 rfl (ld_i l3) ?_
    refine t_0 qlw_163 rfl (ld_a l0) ?_
    refine t_0 qlw_164 rfl (ar_39 hJ4.1) ?_
    refine t_0 qlw_167 rfl (ld_i l3) ?_
    refine t_0 qlw_168 rfl (pq_ia el_219 rfl ⟨by omega, by omega⟩) ?_
    have r5 := fA_b g4 219 (k : Int).toNat
    refine tw_a qlw_169 hJ4 el_224 rfl w_a224 ga_224 (by decide) ⟨by omega, by omega⟩ ⟨by omega, by omega⟩ (fun g6 hJ6 a6 v6 b6 f6 => ?_)
    replace f6 := fF_1 f6
    have q6_32 := congrFun f6 32
    have q6_34 := congrFun f6 34
    show t_X d 213 170 lv [] g6 P
    refine t_0 qlw_170 rfl (ld_a l0) ?_
    refine t_0 qlw_171 rfl (ar_45 hJ6.1) ?_
    refine t_0 qlw_174 rfl (ld_i l3) ?_
    refine t_0 qlw_175 rfl (ld_a l0) ?_
    refine t_0 qlw_176 rfl (ar_40 hJ6.1) ?_
    refine t_0 qlw_179 rfl (ld_i l3) ?_
    refine t_0 qlw_180 rfl (pq_ia el_220 rfl ⟨by omega, by omega⟩) ?_
    have r7 := fA_b g6 220 (k : Int).toNat
    refine tw_a qlw_181 hJ6 el_225 rfl w_a225 ga_225 (by decide) ⟨by omega, by omega⟩ ⟨by omega, by omega⟩ (fun g8 hJ8 a8 v8 b8 f8 => ?_)
    replace f8 := fF_1 f8
    have q8_32 := congrFun f8 32
    have q8_34 := congrFun f8 34
    show t_X d 213 182 lv [] g8 P
    refine t_0 qlw_182 rfl (ld_a l0) ?_
    refine t_0 qlw_183 rfl (ar_46 hJ8.1) ?_
    refine t_0 qlw_186 rfl (ld_i l3) ?_
    refine t_0 qlw_187 rfl (ld_a l0) ?_
    refine t_0 qlw_188 rfl (ar_41 hJ8.1) ?_
    refine t_0 qlw_191 rfl (ld_i l3) ?_
    refine t_0 qlw_192 rfl (pq_ia el_221 rfl ⟨by omega, by omega⟩) ?_
    have r9 := fA_b g8 221 (k : Int).toNat
    refine tw_a qlw_193 hJ8 el_226 rfl w_a226 ga_226 (by decide) ⟨by omega, by omega⟩ ⟨by omega, by omega⟩ (fun g10 hJ10 a10 v10 b10 f10 => ?_)
    replace f10 := fF_1 f10
    have q10_32 := congrFun f10 32
    have q10_34 := congrFun f10 34
    show t_X d 213 194 lv [] g10 P
    refine t_2 qlw_194 rfl (w := (px_s1 lv 3 (oI ((k : Int) + 1)), [])) (pq_inc l3 (by decide)) ?_
    replace l0 : px_lg (px_s1 lv 3 (oI ((k : Int) + 1))) 0 = some (pvR 196) := s1_ne (by decide) (fun _ => rfl) l0
    have l3 : px_lg (px_s1 lv 3 (oI ((k : Int) + 1))) 3 = some (oI ((k : Int) + 1)) := s1_eq
    generalize px_s1 lv 3 (oI ((k : Int) + 1)) = lv11 at l0 l3 ⊢
    show t_X d 213 197 lv11 [] g10 P
    refine t_1 qlw_197 rfl (pb_goto (pc := 197) (by decide)) ?_
    show t_X d 213 138 lv11 [] g10 P
    refine ih (k + 1) _ _ (by omega) (by omega) hJ10 (fun u => by rw [f10, f8, f6, f4]; exact hF u) ?_ ?_ l0 l3
    · obtain ⟨y1, y2, y3, y4⟩ := hA
      exact ⟨by rw [a10 222 (by decide), a8 222 (by decide), a6 222 (by decide), a4 222 (by decide)]; exact y1, by rw [a10 219 (by decide), a8 219 (by decide), a6 219 (by decide), a4 219 (by decide)]; exact y2, by rw [a10 220 (by decide), a8 220 (by decide), a6 220 (by decide), a4 220 (by decide)]; exact y3, by rw [a10 221 (by decide), a8 221 (by decide), a6 221 (by decide), a4 221 (by decide)]; exact y4⟩
    · intro j hj
      by_cases q : j = k
      · subst q
        refine ⟨?_, ?_, ?_⟩
        · rw [a10 224 (by decide), a8 224 (by decide)]
          exact Eq.trans v6 (by rw [a4 219 (by decide), hA.2.1]; rfl)
        · rw [a10 225 (by decide)]
          exact Eq.trans v8 (by rw [a6 220 (by decide), a4 220 (by decide), hA.2.2.1]; rfl)
        · exact Eq.trans v10 (by rw [a8 221 (by decide), a6 221 (by decide), a4 221 (by decide), hA.2.2.2]; rfl)
      · obtain ⟨y1, y2, y3⟩ := hB j (by omega)
        refine ⟨?_, ?_, ?_⟩
        · rw [a10 224 (by decide), a8 224 (by decide), b6 j (by show j ≠ k; omega), a4 224 (by decide)]
          exact y1
        · rw [a10 225 (by decide), b8 j (by show j ≠ k; omega), a6 225 (by decide), a4 225 (by decide)]
          exact y2
        · rw [b10 j (by show j ≠ k; omega), a8 226 (by decide), a6 226 (by decide), a4 226 (by decide)]
          exact y3
set_option maxHeartbeats 8000000 in
theorem lw9_1 {d : Nat} {h0 b cb : pH} (hI : qI b) (hb18 : fF b 18 ≤ 240) (h35b : fF cb 35 = fF b 34) (h34b : fF cb 34 = fF b 34) (h32b : fF cb 32 = fF b 32) {P : Option pv × pH → Prop} (h17b : fF cb 17 = 0) (hP : ∀ (g1 : pH) (z : Int), J_ WL h0 g1 → xL g1 → fF g1 17 = 0 → P (some (oI z), g1)) : ∀ (m k : Nat) (g : pH) (lv : List (Nat × pv)), fF b 32 - k ≤ m → (k : Int) ≤ 240 → J_ WL h0 g → (∀ u, fF g u = fF cb u) → (fA g 216 = fA b 216 ∧ fA g 219 = fA b 219 ∧ fA g 220 = fA b 220 ∧ fA g 221 = fA b 221) → (∀ j : Nat, j < k → fA g 222 j = fA b 216 j) → px_lg lv 0 = some (pvR 196) → px_lg lv 3 = some (oI (k : Int)) → t_X d 213 110 lv [] g P := by
  obtain ⟨w_35, w_a222, w_a223, w_a224, w_a225, w_a226⟩ := WL_f
  have hI1 := hI.1
  intro m
  induction m with
  | zero =>
    intro k g lv hm hk hJ hF hA hB l0 l3
    have hf32 := hF 32
    have hf34 := hF 34
    refine t_0 qlw_110 rfl (ld_i l3) ?_
    refine t_0 qlw_111 rfl (ld_a l0) ?_
    have r1 := fF_b g 32
    refine t_0 qlw_112 rfl (pq_gf (y := 32) rfl) ?_
    refine tb_ge qlw_115 (by decide) ⟨by omega, by omega⟩ ⟨by omega, by omega⟩ (fun c2 => ?_) (fun c2 => absurd c2 (by omega))
    show t_X d 213 136 lv [] g P
    refine t_0 qlw_136 rfl rfl ?_
    refine t_2 qlw_137 rfl (w := (px_s1 lv 3 (oI (0)), [])) rfl ?_
    replace l0 : px_lg (px_s1 lv 3 (oI (0))) 0 = some (pvR 196) := s1_ne (by decide) (fun _ => rfl) l0
    have l3 : px_lg (px_s1 lv 3 (oI (0))) 3 = some (oI (0)) := s1_eq
    generalize px_s1 lv 3 (oI (0)) = lv3 at l0 l3 ⊢
    show t_X d 213 138 lv3 [] g P
    have h35 := hF 35
    have h32 := hF 32
    exact lw9_2 (h17b := by rw [hF]; exact h17b) (d := d) (cb := g) hI (by omega) (by omega) (fun u hu => hB u (by omega)) hP 16 0 _ _ (by omega) (by omega) hJ (fun _ => rfl) ⟨rfl, hA.2.1, hA.2.2.1, hA.2.2.2⟩ (fun j hj => absurd hj (Nat.not_lt_zero j)) l0 l3
  | succ m ih =>
    intro k g lv hm hk hJ hF hA hB l0 l3
    have hf32 := hF 32
    have hf34 := hF 34
    by_cases hks : fF b 32 ≤ k
    · refine t_0 qlw_110 rfl (ld_i l3) ?_
      refine t_0 qlw_111 rfl (ld_a l0) ?_
      have r1 := fF_b g 32
      refine t_0 qlw_112 rfl (pq_gf (y := 32) rfl) ?_
      refine tb_ge qlw_115 (by decide) ⟨by omega, by omega⟩ ⟨by omega, by omega⟩ (fun c2 => ?_) (fun c2 => absurd c2 (by omega))
      show t_X d 213 136 lv [] g P
      refine t_0 qlw_136 rfl rfl ?_
      refine t_2 qlw_137 rfl (w := (px_s1 lv 3 (oI (0)), [])) rfl ?_
      replace l0 : px_lg (px_s1 lv 3 (oI (0))) 0 = some (pvR 196) := s1_ne (by decide) (fun _ => rfl) l0
      have l3 : px_lg (px_s1 lv 3 (oI (0))) 3 = some (oI (0)) := s1_eq
      generalize px_s1 lv 3 (oI (0)) = lv3 at l0 l3 ⊢
      show t_X d 213 138 lv3 [] g P
      have h35 := hF 35
      have h32 := hF 32
      exact lw9_2 (h17b := by rw [hF]; exact h17b) (d := d) (cb := g) hI (by omega) (by omega) (fun u hu => hB u (by omega)) hP 16 0 _ _ (by omega) (by omega) hJ (fun _ => rfl) ⟨rfl, hA.2.1, hA.2.2.1, hA.2.2.2⟩ (fun j hj => absurd hj (Nat.not_lt_zero j)) l0 l3
    refine t_0 qlw_110 rfl (ld_i l3) ?_
    refine t_0 qlw_111 rfl (ld_a l0) ?_
    have r1 := fF_b g 32
    refine t_0 qlw_112 rfl (pq_gf (y := 32) rfl) ?_
    refine tb_ge qlw_115 (by decide) ⟨by omega, by omega⟩ ⟨by omega, by omega⟩ (fun c2 => absurd c2 (by omega)) (fun c2 => ?_)
    show t_X d 213 118 lv [] g P
    refine t_0 qlw_118 rfl (ld_a l0) ?_
    refine t_0 qlw_119 rfl (ar_42 hJ.1) ?_
    refine t_0 qlw_122 rfl (ld_i l3) ?_
    refine t_0 qlw_123 rfl (ld_a l0) ?_
    refine t_0 qlw_124 rfl (ar_36 hJ.1) ?_
    refine t_0 qlw_127 rfl (ld_i l3) ?_
    refine t_0 qlw_128 rfl (pq_ia el_216 rfl ⟨by omega, by omega⟩) ?_
    have r3 := fA_b g 216 (k : Int).toNat
    refine tw_a qlw_129 hJ el_222 rfl w_a222 ga_222 (by decide) ⟨by omega, by omega⟩ ⟨by omega, by omega⟩ (fun g4 hJ4 a4 v4 b4 f4 => ?_)
    replace f4 := fF_1 f4
    have q4_32 := congrFun f4 32
    have q4_34 := congrFun f4 34
    show t_X d 213 130 lv [] g4 P
    refine t_2 qlw_130 rfl (w := (px_s1 lv 3 (oI ((k : Int) + 1)), [])) (pq_inc l3 (by decide)) ?_
    replace l0 : px_lg (px_s1 lv 3 (oI ((k : Int) + 1))) 0 = some (pvR 196) := s1_ne (by decide) (fun _ => rfl) l0
    have l3 : px_lg (px_s1 lv 3 (oI ((k : Int) + 1))) 3 = some (oI ((k : Int) + 1)) := s1_eq
    generalize px_s1 lv 3 (oI ((k : Int) + 1)) = lv5 at l0 l3 ⊢
    show t_X d 213 133 lv5 [] g4 P
    refine t_1 qlw_133 rfl (pb_goto (pc := 133) (by decide)) ?_
    show t_X d 213 110 lv5 [] g4 P
    refine ih (k + 1) _ _ (by omega) (by omega) hJ4 (fun u => by rw [f4]; exact hF u) ?_ ?_ l0 l3
    · obtain ⟨y1, y2, y3, y4⟩ := hA
      exact ⟨by rw [a4 216 (by decide)]; exact y1, by rw [a4 219 (by decide)]; exact y2, by rw [a4 220 (by decide)]; exact y3, by rw [a4 221 (by decide)]; exact y4⟩
    · intro j hj
      by_cases q : j = k
      · subst q
        exact Eq.trans v4 (by rw [hA.1]; rfl)
      · rw [b4 j (by show j ≠ k; omega)]
        exact hB j (by omega)
set_option maxHeartbeats 8000000 in
theorem lw9_e {d : Nat} {h0 : pH} (hx : xL h0) {P : Option pv × pH → Prop} (hP : ∀ (g1 : pH) (z : Int), J_ WL h0 g1 → xL g1 → fF g1 17 = 0 → P (some (oI z), g1)) {g : pH} (hJ : J_ Wm h0 g) {x : Int} (hxx : x = 0 ∨ (x = 1 ∧ qI g ∧ fF g 18 ≤ 240)) {lv : List (Nat × pv)} (l0 : px_lg lv 0 = some (pvR 196)) (l2 : px_lg lv 2 = some (oI x)) : t_X d 213 86 lv [] g P := by
  obtain ⟨w_17, w_18, w_19, w_20, w_32, w_34, wqm, wmx, wml⟩ := Wm_f
  obtain ⟨w_35, w_a222, w_a223, w_a224, w_a225, w_a226⟩ := WL_f
  rcases hxx with rfl | ⟨rfl, hI, hp⟩
  · refine t_0 qlw_86 rfl (ld_a l0) ?_
    refine t_0 qlw_87 rfl rfl ?_
    refine tw_f qlw_88 rfl hJ w_17 gf_17 (by decide) ⟨by omega, by omega⟩ (fun g1 hJ1 v1 f1 a1 => ?_)
    replace a1 := fA_2 a1
    have q1_18 := f1 18 (by decide)
    have q1_19 := f1 19 (by decide)
    have q1_32 := f1 32 (by decide)
    have q1_33 := f1 33 (by decide)
    have q1_34 := f1 34 (by decide)
    show t_X d 213 91 lv [] g1 P
    refine t_0 qlw_91 rfl (ld_i l2) ?_
    refine tz_ne qlw_92 (by decide) ⟨by omega, by omega⟩ (fun c2 => absurd c2 (by omega)) (fun c2 => ?_)
    show t_X d 213 95 lv [] g1 P
    refine t_0 qlw_95 rfl (ld_a l0) ?_
    have r3 := fF_b g1 20
    refine t_0 qlw_96 rfl (pq_gf (y := 20) rfl) ?_
    refine t_5 qlw_99 rfl rfl ?_
    exact hP _ _ (J_wide wml hJ1) (xL_K _ _ _ hJ1.2 wmx hx) v1
  · have hI1 := hI.1
    refine t_0 qlw_86 rfl (ld_a l0) ?_
    refine t_0 qlw_87 rfl rfl ?_
    refine tw_f qlw_88 rfl hJ w_17 gf_17 (by decide) ⟨by omega, by omega⟩ (fun g1 hJ1 v1 f1 a1 => ?_)
    replace a1 := fA_2 a1
    have q1_18 := f1 18 (by decide)
    have q1_19 := f1 19 (by decide)
    have q1_32 := f1 32 (by decide)
    have q1_33 := f1 33 (by decide)
    have q1_34 := f1 34 (by decide)
    show t_X d 213 91 lv [] g1 P
    refine t_0 qlw_91 rfl (ld_i l2) ?_
    refine tz_ne qlw_92 (by decide) ⟨by omega, by omega⟩ (fun c2 => ?_) (fun c2 => absurd c2 (by omega))
    show t_X d 213 100 lv [] g1 P
    have hJw := J_wide wml hJ1
    refine t_0 qlw_100 rfl (ld_a l0) ?_
    refine t_0 qlw_101 rfl (ld_a l0) ?_
    have r3 := fF_b g1 34
    refine t_0 qlw_102 rfl (pq_gf (y := 34) rfl) ?_
    refine tw_f qlw_105 rfl hJw w_35 gf_35 (by decide) ⟨by omega, by omega⟩ (fun g4 hJ4 v4 f4 a4 => ?_)
    replace a4 := fA_2 a4
    have q4_18 := f4 18 (by decide)
    have q4_19 := f4 19 (by decide)
    have q4_32 := f4 32 (by decide)
    have q4_33 := f4 33 (by decide)
    have q4_34 := f4 34 (by decide)
    show t_X d 213 108 lv [] g4 P
    refine t_0 qlw_108 rfl rfl ?_
    refine t_2 qlw_109 rfl (w := (px_s1 lv 3 (oI (0)), [])) rfl ?_
    replace l0 : px_lg (px_s1 lv 3 (oI (0))) 0 = some (pvR 196) := s1_ne (by decide) (fun _ => rfl) l0
    replace l2 : px_lg (px_s1 lv 3 (oI (0))) 2 = some (oI (1)) := s1_ne (by decide) (fun _ => rfl) l2
    have l3 : px_lg (px_s1 lv 3 (oI (0))) 3 = some (oI (0)) := s1_eq
    generalize px_s1 lv 3 (oI (0)) = lv5 at l0 l2 l3 ⊢
    show t_X d 213 110 lv5 [] g4 P
    exact lw9_1 (h17b := by rw [f4 17 (by decide)]; exact v1) (d := d) (b := g) (cb := g4) hI (by omega) (by omega) (by omega) (by omega) hP 240 0 _ _ (by omega) (by omega) hJ4 (fun _ => rfl) ⟨by rw [a4, a1], by rw [a4, a1], by rw [a4, a1], by rw [a4, a1]⟩ (fun j hj => absurd hj (Nat.not_lt_zero j)) l0 l3
theorem lw9_z {d : Nat} {h0 : pH} (hx : xL h0) {P : Option pv × pH → Prop} (hP : ∀ (g1 : pH) (z : Int), J_ WL h0 g1 → xL g1 → fF g1 17 = 0 → P (some (oI z), g1)) {g : pH} (hJ : J_ Wm h0 g) {lv : List (Nat × pv)} (l0 : px_lg lv 0 = some (pvR 196)) (l2 : px_lg lv 2 = some (oI 0)) : t_X d 213 46 lv [] g P := by
  refine t_0 qlw_46 rfl (ld_i l2) ?_
  refine tz_eq qlw_47 (by decide) ⟨by omega, by omega⟩ (fun c1 => ?_) (fun c1 => absurd c1 (by omega))
  show t_X d 213 86 lv [] g P
  exact lw9_e hx hP hJ (Or.inl rfl) l0 l2
set_option maxHeartbeats 8000000 in
theorem lw9_m {d : Nat} (hd : 9 ≤ d) {h0 : pH} (hx : xL h0) {N : Int} (hN : 0 ≤ N ∧ N ≤ 240) {P : Option pv × pH → Prop} (hP : ∀ (g1 : pH) (z : Int), J_ WL h0 g1 → xL g1 → fF g1 17 = 0 → P (some (oI z), g1)) : ∀ (m : Nat) (g : pH) (lv : List (Nat × pv)), N + 1 - fF g 18 ≤ m → (0 ≤ fF g 18 ∧ fF g 18 ≤ N ∧ fF g 19 = N) → qI g → J_ Wm h0 g → px_lg lv 0 = some (pvR 196) → px_lg lv 2 = some (oI 1) → t_X d 213 46 lv [] g P := by
  obtain ⟨w_17, w_18, w_19, w_20, w_32, w_34, wqm, wmx, wml⟩ := Wm_f
  intro m
  induction m with
  | zero =>
    intro g lv hm hp hI hJ l0 l2
    omega
  | succ m ih =>
    intro g lv hm hp hI hJ l0 l2
    have hI1 := hI.1
    refine t_0 qlw_46 rfl (ld_i l2) ?_
    refine tz_eq qlw_47 (by decide) ⟨by omega, by omega⟩ (fun c1 => absurd c1 (by omega)) (fun c1 => ?_)
    show t_X d 213 50 lv [] g P
    refine t_0 qlw_50 rfl (ld_a l0) ?_
    have r2 := fF_b g 18
    refine t_0 qlw_51 rfl (pq_gf (y := 18) rfl) ?_
    refine t_0 qlw_54 rfl (ld_a l0) ?_
    have r3 := fF_b g 19
    refine t_0 qlw_55 rfl (pq_gf (y := 19) rfl) ?_
    refine tb_ge qlw_58 (by decide) ⟨by omega, by omega⟩ ⟨by omega, by omega⟩ (fun c4 => ?_) (fun c4 => ?_)
    · show t_X d 213 86 lv [] g P
      exact lw9_e hx hP hJ (Or.inr ⟨rfl, hI, by omega⟩) l0 l2
    · show t_X d 213 61 lv [] g P
      refine t_0 qlw_61 rfl (ld_a l0) ?_
      refine t_0 qlw_62 rfl (pq_b (by decide)) ?_
      refine t_3 qlw_64 rfl (ar := ([pvR 196, oI (59)], [])) (pcal_v1 rfl rfl el_196) ⟨by omega, Nat.le_of_ble_eq_true rfl, Nat.le_of_ble_eq_true rfl, rfl⟩ ?_
      refine tk_run (by omega) hJ w_18 w_20 (by omega) (by omega) (by decide) (fun g5 p5 u5 hJ5 f5 a5 => ?_) (fun g50005 hJ50005 => ?_) rfl rfl
      · have q5_19 := f5 19 (by decide)
        have q5_32 := f5 32 (by decide)
        have q5_34 := f5 34 (by decide)
        have I5 : qI g5 := by
          unfold qI
          rw [q5_32, q5_34, a5]
          exact ⟨by omega, hI.2⟩
        show t_X d 213 67 lv [oI (1)] g5 P
        refine tz_eq qlw_67 (by decide) ⟨by omega, by omega⟩ (fun c6 => absurd c6 (by omega)) (fun c6 => ?_)
        show t_X d 213 70 lv [] g5 P
        refine t_0 qlw_70 rfl (ld_a l0) ?_
        refine t_3 qlw_71 rfl (ar := ([pvR 196], [])) (pcal_v0 rfl rfl el_196) ⟨by omega, Nat.le_of_ble_eq_true rfl, Nat.le_of_ble_eq_true rfl, rfl⟩ ?_
        refine cl_run (h0 := g5) (by omega) (J_rf hJ5.1) I5 ⟨by omega, by omega, by omega⟩ (fun g7 A7 I7 p7 u7 x7 => ?_) (fun g50007 A50007 => ?_) rfl
        · have hJ7 := J_up wqm hJ5 A7
          show t_X d 213 74 lv [oI (1)] g7 P
          refine tz_eq qlw_74 (by decide) ⟨by omega, by omega⟩ (fun c8 => absurd c8 (by omega)) (fun c8 => ?_)
          show t_X d 213 77 lv [] g7 P
          refine t_0 qlw_77 rfl rfl ?_
          refine t_1 qlw_78 rfl (pb_goto (pc := 78) (by decide)) ?_
          show t_X d 213 82 lv [oI (1)] g7 P
          refine t_2 qlw_82 rfl (w := (px_s1 lv 2 (oI (1)), [])) rfl ?_
          replace l0 : px_lg (px_s1 lv 2 (oI (1))) 0 = some (pvR 196) := s1_ne (by decide) (fun _ => rfl) l0
          have l2 : px_lg (px_s1 lv 2 (oI (1))) 2 = some (oI (1)) := s1_eq
          generalize px_s1 lv 2 (oI (1)) = lv9 at l0 l2 ⊢
          show t_X d 213 83 lv9 [] g7 P
          refine t_1 qlw_83 rfl (pb_goto (pc := 83) (by decide)) ?_
          show t_X d 213 46 lv9 [] g7 P
          exact ih _ _ (by omega) (by omega) I7 hJ7 l0 l2
        · have hJ50007 := J_up wqm hJ5 A50007
          show t_X d 213 74 lv [oI (0)] g50007 P
          refine tz_eq qlw_74 (by decide) ⟨by omega, by omega⟩ (fun c10 => ?_) (fun c10 => absurd c10 (by omega))
          show t_X d 213 81 lv [] g50007 P
          refine t_0 qlw_81 rfl rfl ?_
          refine t_2 qlw_82 rfl (w := (px_s1 lv 2 (oI (0)), [])) rfl ?_
          replace l0 : px_lg (px_s1 lv 2 (oI (0))) 0 = some (pvR 196) := s1_ne (by decide) (fun _ => rfl) l0
          have l2 : px_lg (px_s1 lv 2 (oI (0))) 2 = some (oI (0)) := s1_eq
          generalize px_s1 lv 2 (oI (0)) = lv11 at l0 l2 ⊢
          show t_X d 213 83 lv11 [] g50007 P
          refine t_1 qlw_83 rfl (pb_goto (pc := 83) (by decide)) ?_
          show t_X d 213 46 lv11 [] g50007 P
          exact lw9_z hx hP hJ50007 l0 l2
      · show t_X d 213 67 lv [oI (0)] g50005 P
        refine tz_eq qlw_67 (by decide) ⟨by omega, by omega⟩ (fun c12 => ?_) (fun c12 => absurd c12 (by omega))
        show t_X d 213 81 lv [] g50005 P
        refine t_0 qlw_81 rfl rfl ?_
        refine t_2 qlw_82 rfl (w := (px_s1 lv 2 (oI (0)), [])) rfl ?_
        replace l0 : px_lg (px_s1 lv 2 (oI (0))) 0 = some (pvR 196) := s1_ne (by decide) (fun _ => rfl) l0
        have l2 : px_lg (px_s1 lv 2 (oI (0))) 2 = some (oI (0)) := s1_eq
        generalize px_s1 lv 2 (oI (0)) = lv13 at l0 l2 ⊢
        show t_X d 213 83 lv13 [] g50005 P
        refine t_1 qlw_83 rfl (pb_goto (pc := 83) (by decide)) ?_
        show t_X d 213 46 lv13 [] g50005 P
        exact lw9_z hx hP hJ50005 l0 l2
set_option maxHeartbeats 8000000 in
theorem lw9_run {d : Nat} (hd : 10 ≤ d) {g : pH} (hG : g_I eG g) (hx : xL g) {n : Int} (hn : -2147483648 ≤ n ∧ n ≤ 2147483647) {P : Option pv × pH → Prop} (hA : (1 ≤ n ∧ n ≤ 240) ∧ n ≤ fF g 17 → ∀ (g1 : pH) (z : Int), J_ WL g g1 → xL g1 → fF g1 17 = 0 → P (some (oI z), g1)) (hR : ¬ ((1 ≤ n ∧ n ≤ 240) ∧ n ≤ fF g 17) → P (some (oI (-1)), g)) {lv : List (Nat × pv)} (l0 : px_lg lv 0 = some (pvR 196)) (l1 : px_lg lv 1 = some (oI n)) : t_X d 213 0 lv [] g P := by
  obtain ⟨w_17, w_18, w_19, w_20, w_32, w_34, wqm, wmx, wml⟩ := Wm_f
  have hJ0 : J_ Wm g g := J_rf hG
  refine t_0 qlw_0 rfl (ld_i l1) ?_
  refine t_0 qlw_1 rfl rfl ?_
  refine t_0 qlw_2 rfl (pq_s (by decide)) ?_
  refine t_3 qlw_5 rfl (ar := ([oI (n), oI (1), oI (240)], [])) (pcal_s ⟨Or.inl rfl, rfl, Nat.le_of_ble_eq_true rfl⟩) ⟨by omega, Nat.le_of_ble_eq_true rfl, Nat.le_of_ble_eq_true rfl, rfl⟩ ?_
  refine in_run ⟨by omega, by omega⟩ ⟨by omega, by omega⟩ ⟨by omega, by omega⟩ rfl rfl rfl (fun t1 => ?_) (fun t1 => ?_)
  · show t_X d 213 8 lv [oI (1)] g P
    refine tz_eq qlw_8 (by decide) ⟨by omega, by omega⟩ (fun c2 => absurd c2 (by omega)) (fun c2 => ?_)
    show t_X d 213 11 lv [] g P
    refine t_0 qlw_11 rfl (ld_i l1) ?_
    refine t_0 qlw_12 rfl (ld_a l0) ?_
    have r3 := gb_f hJ0.1 (y := 17) rfl rfl gf_17
    refine t_0 qlw_13 rfl (pq_gf (y := 17) rfl) ?_
    refine tb_le qlw_16 (by decide) ⟨by omega, by omega⟩ ⟨by omega, by omega⟩ (fun c4 => ?_) (fun c4 => ?_)
    · show t_X d 213 21 lv [] g P
      refine t_0 qlw_21 rfl (ld_a l0) ?_
      refine t_0 qlw_22 rfl rfl ?_
      refine tw_f qlw_23 rfl hJ0 w_18 gf_18 (by decide) ⟨by omega, by omega⟩ (fun g5 hJ5 v5 f5 a5 => ?_)
      replace a5 := fA_2 a5
      have q5_19 := f5 19 (by decide)
      have q5_32 := f5 32 (by decide)
      have q5_33 := f5 33 (by decide)
      have q5_34 := f5 34 (by decide)
      show t_X d 213 26 lv [] g5 P
      refine t_0 qlw_26 rfl (ld_a l0) ?_
      refine t_0 qlw_27 rfl (ld_i l1) ?_
      refine tw_f qlw_28 rfl hJ5 w_19 gf_19 (by decide) ⟨by omega, by omega⟩ (fun g6 hJ6 v6 f6 a6 => ?_)
      replace a6 := fA_2 a6
      have q6_18 := f6 18 (by decide)
      have q6_32 := f6 32 (by decide)
      have q6_33 := f6 33 (by decide)
      have q6_34 := f6 34 (by decide)
      show t_X d 213 31 lv [] g6 P
      refine t_0 qlw_31 rfl (ld_a l0) ?_
      refine t_0 qlw_32 rfl rfl ?_
      refine tw_f qlw_33 rfl hJ6 w_32 gf_32 (by decide) ⟨by omega, by omega⟩ (fun g7 hJ7 v7 f7 a7 => ?_)
      replace a7 := fA_2 a7
      have q7_18 := f7 18 (by decide)
      have q7_19 := f7 19 (by decide)
      have q7_33 := f7 33 (by decide)
      have q7_34 := f7 34 (by decide)
      show t_X d 213 36 lv [] g7 P
      refine t_0 qlw_36 rfl (ld_a l0) ?_
      refine t_0 qlw_37 rfl rfl ?_
      refine tw_f qlw_38 rfl hJ7 w_34 gf_34 (by decide) ⟨by omega, by omega⟩ (fun g8 hJ8 v8 f8 a8 => ?_)
      replace a8 := fA_2 a8
      have q8_18 := f8 18 (by decide)
      have q8_19 := f8 19 (by decide)
      have q8_32 := f8 32 (by decide)
      have q8_33 := f8 33 (by decide)
      show t_X d 213 41 lv [] g8 P
      have I0 : qI g8 := ⟨by omega, fun q hq => absurd hq (by omega)⟩
      refine t_0 qlw_41 rfl (ld_a l0) ?_
      refine t_3 qlw_42 rfl (ar := ([pvR 196], [])) (pcal_v0 rfl rfl el_196) ⟨by omega, Nat.le_of_ble_eq_true rfl, Nat.le_of_ble_eq_true rfl, rfl⟩ ?_
      refine cl_run (h0 := g8) (by omega) (J_rf hJ8.1) I0 ⟨by omega, by omega, by omega⟩ (fun g9 A9 I9 p9 u9 x9 => ?_) (fun g50009 A50009 => ?_) rfl
      · have hJ9 := J_up wqm hJ8 A9
        show t_X d 213 45 lv [oI (1)] g9 P
        refine t_2 qlw_45 rfl (w := (px_s1 lv 2 (oI (1)), [])) rfl ?_
        replace l0 : px_lg (px_s1 lv 2 (oI (1))) 0 = some (pvR 196) := s1_ne (by decide) (fun _ => rfl) l0
        replace l1 : px_lg (px_s1 lv 2 (oI (1))) 1 = some (oI (n)) := s1_ne (by decide) (fun _ => rfl) l1
        have l2 : px_lg (px_s1 lv 2 (oI (1))) 2 = some (oI (1)) := s1_eq
        generalize px_s1 lv 2 (oI (1)) = lv10 at l0 l1 l2 ⊢
        show t_X d 213 46 lv10 [] g9 P
        exact lw9_m (by omega) hx (N := n) (by omega) (hA (by omega)) 241 _ _ (by omega) (by omega) I9 hJ9 l0 l2
      · have hJ50009 := J_up wqm hJ8 A50009
        show t_X d 213 45 lv [oI (0)] g50009 P
        refine t_2 qlw_45 rfl (w := (px_s1 lv 2 (oI (0)), [])) rfl ?_
        replace l0 : px_lg (px_s1 lv 2 (oI (0))) 0 = some (pvR 196) := s1_ne (by decide) (fun _ => rfl) l0
        replace l1 : px_lg (px_s1 lv 2 (oI (0))) 1 = some (oI (n)) := s1_ne (by decide) (fun _ => rfl) l1
        have l2 : px_lg (px_s1 lv 2 (oI (0))) 2 = some (oI (0)) := s1_eq
        generalize px_s1 lv 2 (oI (0)) = lv11 at l0 l1 l2 ⊢
        show t_X d 213 46 lv11 [] g50009 P
        exact lw9_z hx (hA (by omega)) hJ50009 l0 l2
    · show t_X d 213 19 lv [] g P
      refine t_0 qlw_19 rfl rfl ?_
      refine t_5 qlw_20 rfl rfl ?_
      exact hR (by omega)
  · show t_X d 213 8 lv [oI (0)] g P
    refine tz_eq qlw_8 (by decide) ⟨by omega, by omega⟩ (fun c12 => ?_) (fun c12 => absurd c12 (by omega))
    show t_X d 213 19 lv [] g P
    refine t_0 qlw_19 rfl rfl ?_
    refine t_5 qlw_20 rfl rfl ?_
    exact hR (by omega)

def Ws9 : Nat := kk_185.2.2.2.1 ||| Wo
theorem Ws9_1 : Ws9.testBit (cn 196 + 17) = false ∧ Ws9 &&& eDX = 0 ∧ kk_185.2.2.2.1 &&& Ws9 = kk_185.2.2.2.1 ∧ Wo &&& Ws9 = Wo := by decide +kernel
theorem Ws9_2 : Ws9 &&& Ws = Ws9 := by decide +kernel
set_option maxHeartbeats 8000000 in
theorem sy9_b {d : Nat} (hd : 4 ≤ d) {h0 : pH} {n w : Int} (hn : 2 ≤ n ∧ n ≤ 12) {all : Int64} {a : Nat} (ha : (a : Int) < n) {P : Option pv × pH → Prop} (hC : ∀ (g : pH) (most : Int64) (f s : Int) (lv : List (Nat × pv)), (f = -1 ∧ s = -1) ∨ (0 ≤ f ∧ f < 12 ∧ 0 ≤ s ∧ s < 12) → J_ Ws9 h0 g → fF g 71 = (n.toNat : Int) → px_lg lv 0 = some (pvR 196) → px_lg lv 1 = some (oI n) → px_lg lv 4 = some (oI w) → px_lg lv 5 = some (.inr (.inl all)) → px_lg lv 7 = some (.inr (.inl most)) → px_lg lv 9 = some (oI f) → px_lg lv 10 = some (oI s) → px_lg lv 11 = some (oI (a : Int)) → t_X d 243 198 lv [] g P) : ∀ (m b : Nat) (g : pH) (most : Int64) (f s : Int) (lv : List (Nat × pv)), n - b ≤ m → (b : Int) ≤ 12 → (f = -1 ∧ s = -1) ∨ (0 ≤ f ∧ f < 12 ∧ 0 ≤ s ∧ s < 12) → J_ Ws9 h0 g → fF g 71 = (n.toNat : Int) → px_lg lv 0 = some (pvR 196) → px_lg lv 1 = some (oI n) → px_lg lv 4 = some (oI w) → px_lg lv 5 = some (.inr (.inl all)) → px_lg lv 7 = some (.inr (.inl most)) → px_lg lv 9 = some (oI f) → px_lg lv 10 = some (oI s) → px_lg lv 11 = some (oI (a : Int)) → px_lg lv 12 = some (oI (b : Int)) → t_X d 243 130 lv [] g P := by
  have hs2 : n.toNat ≤ 12 := by omega
  intro m
  induction m with
  | zero =>
    intro b g most f s lv hm hb hf hJ h71 l0 l1 l4 l5 l7 l9 l10 l11 l12
    refine t_0 qsy_130 rfl (ld_i l12) ?_
    refine t_0 qsy_132 rfl (ld_i l1) ?_
    refine tb_ge qsy_133 (by decide) ⟨by omega, by omega⟩ ⟨by omega, by omega⟩ (fun c1 => ?_) (fun c1 => absurd c1 (by omega))
    show t_X d 243 198 lv [] g P
    exact hC _ _ _ _ _ hf hJ h71 l0 l1 l4 l5 l7 l9 l10 l11
  | succ m ih =>
    intro b g most f s lv hm hb hf hJ h71 l0 l1 l4 l5 l7 l9 l10 l11 l12
    refine t_0 qsy_130 rfl (ld_i l12) ?_
    refine t_0 qsy_132 rfl (ld_i l1) ?_
    refine tb_ge qsy_133 (by decide) ⟨by omega, by omega⟩ ⟨by omega, by omega⟩ (fun c1 => ?_) (fun c1 => ?_)
    · show t_X d 243 198 lv [] g P
      exact hC _ _ _ _ _ hf hJ h71 l0 l1 l4 l5 l7 l9 l10 l11
    · show t_X d 243 136 lv [] g P
      refine t_0 qsy_136 rfl (ld_a l0) ?_
      refine t_0 qsy_137 rfl (ld_i l11) ?_
      refine t_0 qsy_139 rfl (ld_i l12) ?_
      refine t_3 qsy_141 rfl (ar := ([pvR 196, oI ((a : Int)), oI ((b : Int))], [])) (pcal_v2 rfl rfl el_196) ⟨by omega, Nat.le_of_ble_eq_true rfl, Nat.le_of_ble_eq_true rfl, rfl⟩ ?_
      refine lo_run (by omega) hs2 h71 (Or.inr ⟨by omega, by omega, by omega, by omega⟩) (fun g2 hA2 hZ2 => ?_) hJ.1 rfl rfl rfl
      have hJ2 := J_up Ws9_1.2.2.2 hJ hA2
      show t_X d 243 144 lv [.inr (.inl (Lw g2 0))] g2 P
      refine t_2 qsy_144 rfl (w := (px_s2 lv 13 (.inr (.inl (Lw g2 0))), [])) rfl ?_
      replace l0 : px_lg (px_s2 lv 13 (.inr (.inl (Lw g2 0)))) 0 = some (pvR 196) := s2_ne (by decide) (fun _ => rfl) l0
      replace l1 : px_lg (px_s2 lv 13 (.inr (.inl (Lw g2 0)))) 1 = some (oI (n)) := s2_ne (by decide) (fun _ => rfl) l1
      replace l4 : px_lg (px_s2 lv 13 (.inr (.inl (Lw g2 0)))) 4 = some (oI (w)) := s2_ne (by decide) (fun _ => rfl) l4
      replace l5 : px_lg (px_s2 lv 13 (.inr (.inl (Lw g2 0)))) 5 = some (.inr (.inl (all))) := s2_ne (by decide) (fun z => absurd z (by decide)) l5
      replace l7 : px_lg (px_s2 lv 13 (.inr (.inl (Lw g2 0)))) 7 = some (.inr (.inl (most))) := s2_ne (by decide) (fun z => absurd z (by decide)) l7
      replace l9 : px_lg (px_s2 lv 13 (.inr (.inl (Lw g2 0)))) 9 = some (oI (f)) := s2_ne (by decide) (fun _ => rfl) l9
      replace l10 : px_lg (px_s2 lv 13 (.inr (.inl (Lw g2 0)))) 10 = some (oI (s)) := s2_ne (by decide) (fun _ => rfl) l10
      replace l11 : px_lg (px_s2 lv 13 (.inr (.inl (Lw g2 0)))) 11 = some (oI ((a : Int))) := s2_ne (by decide) (fun _ => rfl) l11
      replace l12 : px_lg (px_s2 lv 13 (.inr (.inl (Lw g2 0)))) 12 = some (oI ((b : Int))) := s2_ne (by decide) (fun _ => rfl) l12
      have l13 : px_lg (px_s2 lv 13 (.inr (.inl (Lw g2 0)))) 13 = some (.inr (.inl (Lw g2 0))) := s2_eq
      generalize px_s2 lv 13 (.inr (.inl (Lw g2 0))) = lv3 at l0 l1 l4 l5 l7 l9 l10 l11 l12 l13 ⊢
      show t_X d 243 146 lv3 [] g2 P
      refine t_0 qsy_146 rfl (ld_l l13) ?_
      refine t_0 qsy_148 rfl (ld_l l5) ?_
      refine t_0 qsy_150 rfl (ld_l l13) ?_
      refine t_0 qsy_152 rfl rfl ?_
      refine t_0 qsy_153 rfl rfl ?_
      refine tx_ge qsy_154 (by decide) (fun c4 => ?_) (fun c4 => ?_)
      · show t_X d 243 162 lv3 [] g2 P
        refine t_0 qsy_162 rfl (ld_l l5) ?_
        refine t_0 qsy_164 rfl (ld_l l13) ?_
        refine t_0 qsy_166 rfl rfl ?_
        refine t_2 qsy_167 rfl (w := (px_s2 lv3 15 (.inr (.inl ((all) - (Lw g2 0)))), [])) rfl ?_
        replace l0 : px_lg (px_s2 lv3 15 (.inr (.inl ((all) - (Lw g2 0))))) 0 = some (pvR 196) := s2_ne (by decide) (fun _ => rfl) l0
        replace l1 : px_lg (px_s2 lv3 15 (.inr (.inl ((all) - (Lw g2 0))))) 1 = some (oI (n)) := s2_ne (by decide) (fun _ => rfl) l1
        replace l4 : px_lg (px_s2 lv3 15 (.inr (.inl ((all) - (Lw g2 0))))) 4 = some (oI (w)) := s2_ne (by decide) (fun _ => rfl) l4
        replace l5 : px_lg (px_s2 lv3 15 (.inr (.inl ((all) - (Lw g2 0))))) 5 = some (.inr (.inl (all))) := s2_ne (by decide) (fun z => absurd z (by decide)) l5
        replace l7 : px_lg (px_s2 lv3 15 (.inr (.inl ((all) - (Lw g2 0))))) 7 = some (.inr (.inl (most))) := s2_ne (by decide) (fun z => absurd z (by decide)) l7
        replace l9 : px_lg (px_s2 lv3 15 (.inr (.inl ((all) - (Lw g2 0))))) 9 = some (oI (f)) := s2_ne (by decide) (fun _ => rfl) l9
        replace l10 : px_lg (px_s2 lv3 15 (.inr (.inl ((all) - (Lw g2 0))))) 10 = some (oI (s)) := s2_ne (by decide) (fun _ => rfl) l10
        replace l11 : px_lg (px_s2 lv3 15 (.inr (.inl ((all) - (Lw g2 0))))) 11 = some (oI ((a : Int))) := s2_ne (by decide) (fun _ => rfl) l11
        replace l12 : px_lg (px_s2 lv3 15 (.inr (.inl ((all) - (Lw g2 0))))) 12 = some (oI ((b : Int))) := s2_ne (by decide) (fun _ => rfl) l12
        replace l13 : px_lg (px_s2 lv3 15 (.inr (.inl ((all) - (Lw g2 0))))) 13 = some (.inr (.inl (Lw g2 0))) := s2_ne (by decide) (fun z => absurd z (by decide)) l13
        have l15 : px_lg (px_s2 lv3 15 (.inr (.inl ((all) - (Lw g2 0))))) 15 = some (.inr (.inl ((all) - (Lw g2 0)))) := s2_eq
        generalize px_s2 lv3 15 (.inr (.inl ((all) - (Lw g2 0)))) = lv5 at l0 l1 l4 l5 l7 l9 l10 l11 l12 l13 l15 ⊢
        show t_X d 243 169 lv5 [] g2 P
        refine t_0 qsy_169 rfl (ld_l l15) ?_
        refine t_0 qsy_171 rfl (ld_l l7) ?_
        refine t_0 qsy_173 rfl rfl ?_
        refine tx_gt qsy_174 (by decide) (fun c6 => ?_) (fun c6 => ?_)
        · show t_X d 243 180 lv5 [] g2 P
          refine t_0 qsy_180 rfl (ld_l l15) ?_
          refine t_2 qsy_182 rfl (w := (px_s2 lv5 7 (.inr (.inl ((all) - (Lw g2 0)))), [])) rfl ?_
          replace l0 : px_lg (px_s2 lv5 7 (.inr (.inl ((all) - (Lw g2 0))))) 0 = some (pvR 196) := s2_ne (by decide) (fun _ => rfl) l0
          replace l1 : px_lg (px_s2 lv5 7 (.inr (.inl ((all) - (Lw g2 0))))) 1 = some (oI (n)) := s2_ne (by decide) (fun _ => rfl) l1
          replace l4 : px_lg (px_s2 lv5 7 (.inr (.inl ((all) - (Lw g2 0))))) 4 = some (oI (w)) := s2_ne (by decide) (fun _ => rfl) l4
          replace l5 : px_lg (px_s2 lv5 7 (.inr (.inl ((all) - (Lw g2 0))))) 5 = some (.inr (.inl (all))) := s2_ne (by decide) (fun z => absurd z (by decide)) l5
          replace l9 : px_lg (px_s2 lv5 7 (.inr (.inl ((all) - (Lw g2 0))))) 9 = some (oI (f)) := s2_ne (by decide) (fun _ => rfl) l9
          replace l10 : px_lg (px_s2 lv5 7 (.inr (.inl ((all) - (Lw g2 0))))) 10 = some (oI (s)) := s2_ne (by decide) (fun _ => rfl) l10
          replace l11 : px_lg (px_s2 lv5 7 (.inr (.inl ((all) - (Lw g2 0))))) 11 = some (oI ((a : Int))) := s2_ne (by decide) (fun _ => rfl) l11
          replace l12 : px_lg (px_s2 lv5 7 (.inr (.inl ((all) - (Lw g2 0))))) 12 = some (oI ((b : Int))) := s2_ne (by decide) (fun _ => rfl) l12
          replace l13 : px_lg (px_s2 lv5 7 (.inr (.inl ((all) - (Lw g2 0))))) 13 = some (.inr (.inl (Lw g2 0))) := s2_ne (by decide) (fun z => absurd z (by decide)) l13
          replace l15 : px_lg (px_s2 lv5 7 (.inr (.inl ((all) - (Lw g2 0))))) 15 = some (.inr (.inl ((all) - (Lw g2 0)))) := s2_ne (by decide) (fun z => absurd z (by decide)) l15
          have l7 : px_lg (px_s2 lv5 7 (.inr (.inl ((all) - (Lw g2 0))))) 7 = some (.inr (.inl ((all) - (Lw g2 0)))) := s2_eq
          generalize px_s2 lv5 7 (.inr (.inl ((all) - (Lw g2 0)))) = lv7 at l0 l1 l4 l5 l9 l10 l11 l12 l13 l15 l7 ⊢
          show t_X d 243 184 lv7 [] g2 P
          refine t_0 qsy_184 rfl (ld_i l11) ?_
          refine t_2 qsy_186 rfl (w := (px_s1 lv7 9 (oI ((a : Int))), [])) rfl ?_
          replace l0 : px_lg (px_s1 lv7 9 (oI ((a : Int)))) 0 = some (pvR 196) := s1_ne (by decide) (fun _ => rfl) l0
          replace l1 : px_lg (px_s1 lv7 9 (oI ((a : Int)))) 1 = some (oI (n)) := s1_ne (by decide) (fun _ => rfl) l1
          replace l4 : px_lg (px_s1 lv7 9 (oI ((a : Int)))) 4 = some (oI (w)) := s1_ne (by decide) (fun _ => rfl) l4
          replace l5 : px_lg (px_s1 lv7 9 (oI ((a : Int)))) 5 = some (.inr (.inl (all))) := s1_ne (by decide) (fun z => absurd z (by decide)) l5
          replace l10 : px_lg (px_s1 lv7 9 (oI ((a : Int)))) 10 = some (oI (s)) := s1_ne (by decide) (fun _ => rfl) l10
          replace l11 : px_lg (px_s1 lv7 9 (oI ((a : Int)))) 11 = some (oI ((a : Int))) := s1_ne (by decide) (fun _ => rfl) l11
          replace l12 : px_lg (px_s1 lv7 9 (oI ((a : Int)))) 12 = some (oI ((b : Int))) := s1_ne (by decide) (fun _ => rfl) l12
          replace l13 : px_lg (px_s1 lv7 9 (oI ((a : Int)))) 13 = some (.inr (.inl (Lw g2 0))) := s1_ne (by decide) (fun z => absurd z (by decide)) l13
          replace l15 : px_lg (px_s1 lv7 9 (oI ((a : Int)))) 15 = some (.inr (.inl ((all) - (Lw g2 0)))) := s1_ne (by decide) (fun z => absurd z (by decide)) l15
          replace l7 : px_lg (px_s1 lv7 9 (oI ((a : Int)))) 7 = some (.inr (.inl ((all) - (Lw g2 0)))) := s1_ne (by decide) (fun z => absurd z (by decide)) l7
          have l9 : px_lg (px_s1 lv7 9 (oI ((a : Int)))) 9 = some (oI ((a : Int))) := s1_eq
          generalize px_s1 lv7 9 (oI ((a : Int))) = lv8 at l0 l1 l4 l5 l10 l11 l12 l13 l15 l7 l9 ⊢
          show t_X d 243 188 lv8 [] g2 P
          refine t_0 qsy_188 rfl (ld_i l12) ?_
          refine t_2 qsy_190 rfl (w := (px_s1 lv8 10 (oI ((b : Int))), [])) rfl ?_
          replace l0 : px_lg (px_s1 lv8 10 (oI ((b : Int)))) 0 = some (pvR 196) := s1_ne (by decide) (fun _ => rfl) l0
          replace l1 : px_lg (px_s1 lv8 10 (oI ((b : Int)))) 1 = some (oI (n)) := s1_ne (by decide) (fun _ => rfl) l1
          replace l4 : px_lg (px_s1 lv8 10 (oI ((b : Int)))) 4 = some (oI (w)) := s1_ne (by decide) (fun _ => rfl) l4
          replace l5 : px_lg (px_s1 lv8 10 (oI ((b : Int)))) 5 = some (.inr (.inl (all))) := s1_ne (by decide) (fun z => absurd z (by decide)) l5
          replace l11 : px_lg (px_s1 lv8 10 (oI ((b : Int)))) 11 = some (oI ((a : Int))) := s1_ne (by decide) (fun _ => rfl) l11
          replace l12 : px_lg (px_s1 lv8 10 (oI ((b : Int)))) 12 = some (oI ((b : Int))) := s1_ne (by decide) (fun _ => rfl) l12
          replace l13 : px_lg (px_s1 lv8 10 (oI ((b : Int)))) 13 = some (.inr (.inl (Lw g2 0))) := s1_ne (by decide) (fun z => absurd z (by decide)) l13
          replace l15 : px_lg (px_s1 lv8 10 (oI ((b : Int)))) 15 = some (.inr (.inl ((all) - (Lw g2 0)))) := s1_ne (by decide) (fun z => absurd z (by decide)) l15
          replace l7 : px_lg (px_s1 lv8 10 (oI ((b : Int)))) 7 = some (.inr (.inl ((all) - (Lw g2 0)))) := s1_ne (by decide) (fun z => absurd z (by decide)) l7
          replace l9 : px_lg (px_s1 lv8 10 (oI ((b : Int)))) 9 = some (oI ((a : Int))) := s1_ne (by decide) (fun _ => rfl) l9
          have l10 : px_lg (px_s1 lv8 10 (oI ((b : Int)))) 10 = some (oI ((b : Int))) := s1_eq
          generalize px_s1 lv8 10 (oI ((b : Int))) = lv9 at l0 l1 l4 l5 l11 l12 l13 l15 l7 l9 l10 ⊢
          show t_X d 243 192 lv9 [] g2 P
          refine t_2 qsy_192 rfl (w := (px_s1 lv9 12 (oI ((b : Int) + 1)), [])) (pq_inc l12 (by decide)) ?_
          replace l0 : px_lg (px_s1 lv9 12 (oI ((b : Int) + 1))) 0 = some (pvR 196) := s1_ne (by decide) (fun _ => rfl) l0
          replace l1 : px_lg (px_s1 lv9 12 (oI ((b : Int) + 1))) 1 = some (oI (n)) := s1_ne (by decide) (fun _ => rfl) l1
          replace l4 : px_lg (px_s1 lv9 12 (oI ((b : Int) + 1))) 4 = some (oI (w)) := s1_ne (by decide) (fun _ => rfl) l4
          replace l5 : px_lg (px_s1 lv9 12 (oI ((b : Int) + 1))) 5 = some (.inr (.inl (all))) := s1_ne (by decide) (fun z => absurd z (by decide)) l5
          replace l11 : px_lg (px_s1 lv9 12 (oI ((b : Int) + 1))) 11 = some (oI ((a : Int))) := s1_ne (by decide) (fun _ => rfl) l11
          replace l13 : px_lg (px_s1 lv9 12 (oI ((b : Int) + 1))) 13 = some (.inr (.inl (Lw g2 0))) := s1_ne (by decide) (fun z => absurd z (by decide)) l13
          replace l15 : px_lg (px_s1 lv9 12 (oI ((b : Int) + 1))) 15 = some (.inr (.inl ((all) - (Lw g2 0)))) := s1_ne (by decide) (fun z => absurd z (by decide)) l15
          replace l7 : px_lg (px_s1 lv9 12 (oI ((b : Int) + 1))) 7 = some (.inr (.inl ((all) - (Lw g2 0)))) := s1_ne (by decide) (fun z => absurd z (by decide)) l7
          replace l9 : px_lg (px_s1 lv9 12 (oI ((b : Int) + 1))) 9 = some (oI ((a : Int))) := s1_ne (by decide) (fun _ => rfl) l9
          replace l10 : px_lg (px_s1 lv9 12 (oI ((b : Int) + 1))) 10 = some (oI ((b : Int))) := s1_ne (by decide) (fun _ => rfl) l10
          have l12 : px_lg (px_s1 lv9 12 (oI ((b : Int) + 1))) 12 = some (oI ((b : Int) + 1)) := s1_eq
          generalize px_s1 lv9 12 (oI ((b : Int) + 1)) = lv10 at l0 l1 l4 l5 l11 l13 l15 l7 l9 l10 l12 ⊢
          show t_X d 243 195 lv10 [] g2 P
          refine t_1 qsy_195 rfl (pb_goto (pc := 195) (by decide)) ?_
          show t_X d 243 130 lv10 [] g2 P
          exact ih (b + 1) _ _ _ _ _ (by omega) (by omega) (by omega) hJ2 (by rw [fF_M hA2.2 Wo_1.2.2.2.1, h71]) l0 l1 l4 l5 l7 l9 l10 l11 l12
        · show t_X d 243 177 lv5 [] g2 P
          refine t_1 qsy_177 rfl (pb_goto (pc := 177) (by decide)) ?_
          show t_X d 243 192 lv5 [] g2 P
          refine t_2 qsy_192 rfl (w := (px_s1 lv5 12 (oI ((b : Int) + 1)), [])) (pq_inc l12 (by decide)) ?_
          replace l0 : px_lg (px_s1 lv5 12 (oI ((b : Int) + 1))) 0 = some (pvR 196) := s1_ne (by decide) (fun _ => rfl) l0
          replace l1 : px_lg (px_s1 lv5 12 (oI ((b : Int) + 1))) 1 = some (oI (n)) := s1_ne (by decide) (fun _ => rfl) l1
          replace l4 : px_lg (px_s1 lv5 12 (oI ((b : Int) + 1))) 4 = some (oI (w)) := s1_ne (by decide) (fun _ => rfl) l4
          replace l5 : px_lg (px_s1 lv5 12 (oI ((b : Int) + 1))) 5 = some (.inr (.inl (all))) := s1_ne (by decide) (fun z => absurd z (by decide)) l5
          replace l7 : px_lg (px_s1 lv5 12 (oI ((b : Int) + 1))) 7 = some (.inr (.inl (most))) := s1_ne (by decide) (fun z => absurd z (by decide)) l7
          replace l9 : px_lg (px_s1 lv5 12 (oI ((b : Int) + 1))) 9 = some (oI (f)) := s1_ne (by decide) (fun _ => rfl) l9
          replace l10 : px_lg (px_s1 lv5 12 (oI ((b : Int) + 1))) 10 = some (oI (s)) := s1_ne (by decide) (fun _ => rfl) l10
          replace l11 : px_lg (px_s1 lv5 12 (oI ((b : Int) + 1))) 11 = some (oI ((a : Int))) := s1_ne (by decide) (fun _ => rfl) l11
          replace l13 : px_lg (px_s1 lv5 12 (oI ((b : Int) + 1))) 13 = some (.inr (.inl (Lw g2 0))) := s1_ne (by decide) (fun z => absurd z (by decide)) l13
          replace l15 : px_lg (px_s1 lv5 12 (oI ((b : Int) + 1))) 15 = some (.inr (.inl ((all) - (Lw g2 0)))) := s1_ne (by decide) (fun z => absurd z (by decide)) l15
          have l12 : px_lg (px_s1 lv5 12 (oI ((b : Int) + 1))) 12 = some (oI ((b : Int) + 1)) := s1_eq
          generalize px_s1 lv5 12 (oI ((b : Int) + 1)) = lv11 at l0 l1 l4 l5 l7 l9 l10 l11 l13 l15 l12 ⊢
          show t_X d 243 195 lv11 [] g2 P
          refine t_1 qsy_195 rfl (pb_goto (pc := 195) (by decide)) ?_
          show t_X d 243 130 lv11 [] g2 P
          exact ih (b + 1) _ _ _ _ _ (by omega) (by omega) (by omega) hJ2 (by rw [fF_M hA2.2 Wo_1.2.2.2.1, h71]) l0 l1 l4 l5 l7 l9 l10 l11 l12
      · show t_X d 243 157 lv3 [] g2 P
        refine t_0 qsy_157 rfl (ld_l l13) ?_
        refine t_1 qsy_159 rfl (pb_goto (pc := 159) (by decide)) ?_
        show t_X d 243 167 lv3 [.inr (.inl (Lw g2 0))] g2 P
        refine t_2 qsy_167 rfl (w := (px_s2 lv3 15 (.inr (.inl (Lw g2 0))), [])) rfl ?_
        replace l0 : px_lg (px_s2 lv3 15 (.inr (.inl (Lw g2 0)))) 0 = some (pvR 196) := s2_ne (by decide) (fun _ => rfl) l0
        replace l1 : px_lg (px_s2 lv3 15 (.inr (.inl (Lw g2 0)))) 1 = some (oI (n)) := s2_ne (by decide) (fun _ => rfl) l1
        replace l4 : px_lg (px_s2 lv3 15 (.inr (.inl (Lw g2 0)))) 4 = some (oI (w)) := s2_ne (by decide) (fun _ => rfl) l4
        replace l5 : px_lg (px_s2 lv3 15 (.inr (.inl (Lw g2 0)))) 5 = some (.inr (.inl (all))) := s2_ne (by decide) (fun z => absurd z (by decide)) l5
        replace l7 : px_lg (px_s2 lv3 15 (.inr (.inl (Lw g2 0)))) 7 = some (.inr (.inl (most))) := s2_ne (by decide) (fun z => absurd z (by decide)) l7
        replace l9 : px_lg (px_s2 lv3 15 (.inr (.inl (Lw g2 0)))) 9 = some (oI (f)) := s2_ne (by decide) (fun _ => rfl) l9
        replace l10 : px_lg (px_s2 lv3 15 (.inr (.inl (Lw g2 0)))) 10 = some (oI (s)) := s2_ne (by decide) (fun _ => rfl) l10
        replace l11 : px_lg (px_s2 lv3 15 (.inr (.inl (Lw g2 0)))) 11 = some (oI ((a : Int))) := s2_ne (by decide) (fun _ => rfl) l11
        replace l12 : px_lg (px_s2 lv3 15 (.inr (.inl (Lw g2 0)))) 12 = some (oI ((b : Int))) := s2_ne (by decide) (fun _ => rfl) l12
        replace l13 : px_lg (px_s2 lv3 15 (.inr (.inl (Lw g2 0)))) 13 = some (.inr (.inl (Lw g2 0))) := s2_ne (by decide) (fun z => absurd z (by decide)) l13
        have l15 : px_lg (px_s2 lv3 15 (.inr (.inl (Lw g2 0)))) 15 = some (.inr (.inl (Lw g2 0))) := s2_eq
        generalize px_s2 lv3 15 (.inr (.inl (Lw g2 0))) = lv12 at l0 l1 l4 l5 l7 l9 l10 l11 l12 l13 l15 ⊢
        show t_X d 243 169 lv12 [] g2 P
        refine t_0 qsy_169 rfl (ld_l l15) ?_
        refine t_0 qsy_171 rfl (ld_l l7) ?_
        refine t_0 qsy_173 rfl rfl ?_
        refine tx_gt qsy_174 (by decide) (fun c13 => ?_) (fun c13 => ?_)
        · show t_X d 243 180 lv12 [] g2 P
          refine t_0 qsy_180 rfl (ld_l l15) ?_
          refine t_2 qsy_182 rfl (w := (px_s2 lv12 7 (.inr (.inl (Lw g2 0))), [])) rfl ?_
          replace l0 : px_lg (px_s2 lv12 7 (.inr (.inl (Lw g2 0)))) 0 = some (pvR 196) := s2_ne (by decide) (fun _ => rfl) l0
          replace l1 : px_lg (px_s2 lv12 7 (.inr (.inl (Lw g2 0)))) 1 = some (oI (n)) := s2_ne (by decide) (fun _ => rfl) l1
          replace l4 : px_lg (px_s2 lv12 7 (.inr (.inl (Lw g2 0)))) 4 = some (oI (w)) := s2_ne (by decide) (fun _ => rfl) l4
          replace l5 : px_lg (px_s2 lv12 7 (.inr (.inl (Lw g2 0)))) 5 = some (.inr (.inl (all))) := s2_ne (by decide) (fun z => absurd z (by decide)) l5
          replace l9 : px_lg (px_s2 lv12 7 (.inr (.inl (Lw g2 0)))) 9 = some (oI (f)) := s2_ne (by decide) (fun _ => rfl) l9
          replace l10 : px_lg (px_s2 lv12 7 (.inr (.inl (Lw g2 0)))) 10 = some (oI (s)) := s2_ne (by decide) (fun _ => rfl) l10
          replace l11 : px_lg (px_s2 lv12 7 (.inr (.inl (Lw g2 0)))) 11 = some (oI ((a : Int))) := s2_ne (by decide) (fun _ => rfl) l11
          replace l12 : px_lg (px_s2 lv12 7 (.inr (.inl (Lw g2 0)))) 12 = some (oI ((b : Int))) := s2_ne (by decide) (fun _ => rfl) l12
          replace l13 : px_lg (px_s2 lv12 7 (.inr (.inl (Lw g2 0)))) 13 = some (.inr (.inl (Lw g2 0))) := s2_ne (by decide) (fun z => absurd z (by decide)) l13
          replace l15 : px_lg (px_s2 lv12 7 (.inr (.inl (Lw g2 0)))) 15 = some (.inr (.inl (Lw g2 0))) := s2_ne (by decide) (fun z => absurd z (by decide)) l15
          have l7 : px_lg (px_s2 lv12 7 (.inr (.inl (Lw g2 0)))) 7 = some (.inr (.inl (Lw g2 0))) := s2_eq
          generalize px_s2 lv12 7 (.inr (.inl (Lw g2 0))) = lv14 at l0 l1 l4 l5 l9 l10 l11 l12 l13 l15 l7 ⊢
          show t_X d 243 184 lv14 [] g2 P
          refine t_0 qsy_184 rfl (ld_i l11) ?_
          refine t_2 qsy_186 rfl (w := (px_s1 lv14 9 (oI ((a : Int))), [])) rfl ?_
          replace l0 : px_lg (px_s1 lv14 9 (oI ((a : Int)))) 0 = some (pvR 196) := s1_ne (by decide) (fun _ => rfl) l0
          replace l1 : px_lg (px_s1 lv14 9 (oI ((a : Int)))) 1 = some (oI (n)) := s1_ne (by decide) (fun _ => rfl) l1
          replace l4 : px_lg (px_s1 lv14 9 (oI ((a : Int)))) 4 = some (oI (w)) := s1_ne (by decide) (fun _ => rfl) l4
          replace l5 : px_lg (px_s1 lv14 9 (oI ((a : Int)))) 5 = some (.inr (.inl (all))) := s1_ne (by decide) (fun z => absurd z (by decide)) l5
          replace l10 : px_lg (px_s1 lv14 9 (oI ((a : Int)))) 10 = some (oI (s)) := s1_ne (by decide) (fun _ => rfl) l10
          replace l11 : px_lg (px_s1 lv14 9 (oI ((a : Int)))) 11 = some (oI ((a : Int))) := s1_ne (by decide) (fun _ => rfl) l11
          replace l12 : px_lg (px_s1 lv14 9 (oI ((a : Int)))) 12 = some (oI ((b : Int))) := s1_ne (by decide) (fun _ => rfl) l12
          replace l13 : px_lg (px_s1 lv14 9 (oI ((a : Int)))) 13 = some (.inr (.inl (Lw g2 0))) := s1_ne (by decide) (fun z => absurd z (by decide)) l13
          replace l15 : px_lg (px_s1 lv14 9 (oI ((a : Int)))) 15 = some (.inr (.inl (Lw g2 0))) := s1_ne (by decide) (fun z => absurd z (by decide)) l15
          replace l7 : px_lg (px_s1 lv14 9 (oI ((a : Int)))) 7 = some (.inr (.inl (Lw g2 0))) := s1_ne (by decide) (fun z => absurd z (by decide)) l7
          have l9 : px_lg (px_s1 lv14 9 (oI ((a : Int)))) 9 = some (oI ((a : Int))) := s1_eq
          generalize px_s1 lv14 9 (oI ((a : Int))) = lv15 at l0 l1 l4 l5 l10 l11 l12 l13 l15 l7 l9 ⊢
          show t_X d 243 188 lv15 [] g2 P
          refine t_0 qsy_188 rfl (ld_i l12) ?_
          refine t_2 qsy_190 rfl (w := (px_s1 lv15 10 (oI ((b : Int))), [])) rfl ?_
          replace l0 : px_lg (px_s1 lv15 10 (oI ((b : Int)))) 0 = some (pvR 196) := s1_ne (by decide) (fun _ => rfl) l0
          replace l1 : px_lg (px_s1 lv15 10 (oI ((b : Int)))) 1 = some (oI (n)) := s1_ne (by decide) (fun _ => rfl) l1
          replace l4 : px_lg (px_s1 lv15 10 (oI ((b : Int)))) 4 = some (oI (w)) := s1_ne (by decide) (fun _ => rfl) l4
          replace l5 : px_lg (px_s1 lv15 10 (oI ((b : Int)))) 5 = some (.inr (.inl (all))) := s1_ne (by decide) (fun z => absurd z (by decide)) l5
          replace l11 : px_lg (px_s1 lv15 10 (oI ((b : Int)))) 11 = some (oI ((a : Int))) := s1_ne (by decide) (fun _ => rfl) l11
          replace l12 : px_lg (px_s1 lv15 10 (oI ((b : Int)))) 12 = some (oI ((b : Int))) := s1_ne (by decide) (fun _ => rfl) l12
          replace l13 : px_lg (px_s1 lv15 10 (oI ((b : Int)))) 13 = some (.inr (.inl (Lw g2 0))) := s1_ne (by decide) (fun z => absurd z (by decide)) l13
          replace l15 : px_lg (px_s1 lv15 10 (oI ((b : Int)))) 15 = some (.inr (.inl (Lw g2 0))) := s1_ne (by decide) (fun z => absurd z (by decide)) l15
          replace l7 : px_lg (px_s1 lv15 10 (oI ((b : Int)))) 7 = some (.inr (.inl (Lw g2 0))) := s1_ne (by decide) (fun z => absurd z (by decide)) l7
          replace l9 : px_lg (px_s1 lv15 10 (oI ((b : Int)))) 9 = some (oI ((a : Int))) := s1_ne (by decide) (fun _ => rfl) l9
          have l10 : px_lg (px_s1 lv15 10 (oI ((b : Int)))) 10 = some (oI ((b : Int))) := s1_eq
          generalize px_s1 lv15 10 (oI ((b : Int))) = lv16 at l0 l1 l4 l5 l11 l12 l13 l15 l7 l9 l10 ⊢
          show t_X d 243 192 lv16 [] g2 P
          refine t_2 qsy_192 rfl (w := (px_s1 lv16 12 (oI ((b : Int) + 1)), [])) (pq_inc l12 (by decide)) ?_
          replace l0 : px_lg (px_s1 lv16 12 (oI ((b : Int) + 1))) 0 = some (pvR 196) := s1_ne (by decide) (fun _ => rfl) l0
          replace l1 : px_lg (px_s1 lv16 12 (oI ((b : Int) + 1))) 1 = some (oI (n)) := s1_ne (by decide) (fun _ => rfl) l1
          replace l4 : px_lg (px_s1 lv16 12 (oI ((b : Int) + 1))) 4 = some (oI (w)) := s1_ne (by decide) (fun _ => rfl) l4
          replace l5 : px_lg (px_s1 lv16 12 (oI ((b : Int) + 1))) 5 = some (.inr (.inl (all))) := s1_ne (by decide) (fun z => absurd z (by decide)) l5
          replace l11 : px_lg (px_s1 lv16 12 (oI ((b : Int) + 1))) 11 = some (oI ((a : Int))) := s1_ne (by decide) (fun _ => rfl) l11
          replace l13 : px_lg (px_s1 lv16 12 (oI ((b : Int) + 1))) 13 = some (.inr (.inl (Lw g2 0))) := s1_ne (by decide) (fun z => absurd z (by decide)) l13
          replace l15 : px_lg (px_s1 lv16 12 (oI ((b : Int) + 1))) 15 = some (.inr (.inl (Lw g2 0))) := s1_ne (by decide) (fun z => absurd z (by decide)) l15
          replace l7 : px_lg (px_s1 lv16 12 (oI ((b : Int) + 1))) 7 = some (.inr (.inl (Lw g2 0))) := s1_ne (by decide) (fun z => absurd z (by decide)) l7
          replace l9 : px_lg (px_s1 lv16 12 (oI ((b : Int) + 1))) 9 = some (oI ((a : Int))) := s1_ne (by decide) (fun _ => rfl) l9
          replace l10 : px_lg (px_s1 lv16 12 (oI ((b : Int) + 1))) 10 = some (oI ((b : Int))) := s1_ne (by decide) (fun _ => rfl) l10
          have l12 : px_lg (px_s1 lv16 12 (oI ((b : Int) + 1))) 12 = some (oI ((b : Int) + 1)) := s1_eq
          generalize px_s1 lv16 12 (oI ((b : Int) + 1)) = lv17 at l0 l1 l4 l5 l11 l13 l15 l7 l9 l10 l12 ⊢
          show t_X d 243 195 lv17 [] g2 P
          refine t_1 qsy_195 rfl (pb_goto (pc := 195) (by decide)) ?_
          show t_X d 243 130 lv17 [] g2 P
          exact ih (b + 1) _ _ _ _ _ (by omega) (by omega) (by omega) hJ2 (by rw [fF_M hA2.2 Wo_1.2.2.2.1, h71]) l0 l1 l4 l5 l7 l9 l10 l11 l12
        · show t_X d 243 177 lv12 [] g2 P
          refine t_1 qsy_177 rfl (pb_goto (pc := 177) (by decide)) ?_
          show t_X d 243 192 lv12 [] g2 P
          refine t_2 qsy_192 rfl (w := (px_s1 lv12 12 (oI ((b : Int) + 1)), [])) (pq_inc l12 (by decide)) ?_
          replace l0 : px_lg (px_s1 lv12 12 (oI ((b : Int) + 1))) 0 = some (pvR 196) := s1_ne (by decide) (fun _ => rfl) l0
          replace l1 : px_lg (px_s1 lv12 12 (oI ((b : Int) + 1))) 1 = some (oI (n)) := s1_ne (by decide) (fun _ => rfl) l1
          replace l4 : px_lg (px_s1 lv12 12 (oI ((b : Int) + 1))) 4 = some (oI (w)) := s1_ne (by decide) (fun _ => rfl) l4
          replace l5 : px_lg (px_s1 lv12 12 (oI ((b : Int) + 1))) 5 = some (.inr (.inl (all))) := s1_ne (by decide) (fun z => absurd z (by decide)) l5
          replace l7 : px_lg (px_s1 lv12 12 (oI ((b : Int) + 1))) 7 = some (.inr (.inl (most))) := s1_ne (by decide) (fun z => absurd z (by decide)) l7
          replace l9 : px_lg (px_s1 lv12 12 (oI ((b : Int) + 1))) 9 = some (oI (f)) := s1_ne (by decide) (fun _ => rfl) l9
          replace l10 : px_lg (px_s1 lv12 12 (oI ((b : Int) + 1))) 10 = some (oI (s)) := s1_ne (by decide) (fun _ => rfl) l10
          replace l11 : px_lg (px_s1 lv12 12 (oI ((b : Int) + 1))) 11 = some (oI ((a : Int))) := s1_ne (by decide) (fun _ => rfl) l11
          replace l13 : px_lg (px_s1 lv12 12 (oI ((b : Int) + 1))) 13 = some (.inr (.inl (Lw g2 0))) := s1_ne (by decide) (fun z => absurd z (by decide)) l13
          replace l15 : px_lg (px_s1 lv12 12 (oI ((b : Int) + 1))) 15 = some (.inr (.inl (Lw g2 0))) := s1_ne (by decide) (fun z => absurd z (by decide)) l15
          have l12 : px_lg (px_s1 lv12 12 (oI ((b : Int) + 1))) 12 = some (oI ((b : Int) + 1)) := s1_eq
          generalize px_s1 lv12 12 (oI ((b : Int) + 1)) = lv18 at l0 l1 l4 l5 l7 l9 l10 l11 l13 l15 l12 ⊢
          show t_X d 243 195 lv18 [] g2 P
          refine t_1 qsy_195 rfl (pb_goto (pc := 195) (by decide)) ?_
          show t_X d 243 130 lv18 [] g2 P
          exact ih (b + 1) _ _ _ _ _ (by omega) (by omega) (by omega) hJ2 (by rw [fF_M hA2.2 Wo_1.2.2.2.1, h71]) l0 l1 l4 l5 l7 l9 l10 l11 l12
set_option maxHeartbeats 8000000 in
theorem sy9_a {d : Nat} (hd : 4 ≤ d) {h0 : pH} {n w : Int} (hw : -2147483648 ≤ w ∧ w ≤ 2147483647) (hn : 2 ≤ n ∧ n ≤ 12) {all : Int64} {P : Option pv × pH → Prop} (hP : ∀ (g : pH) (z : Int64), J_ Ws9 h0 g → P (some (.inr (.inl z)), g)) : ∀ (m a : Nat) (g : pH) (most : Int64) (f s : Int) (lv : List (Nat × pv)), n - a ≤ m → (a : Int) ≤ n → (f = -1 ∧ s = -1) ∨ (0 ≤ f ∧ f < 12 ∧ 0 ≤ s ∧ s < 12) → J_ Ws9 h0 g → fF g 71 = (n.toNat : Int) → px_lg lv 0 = some (pvR 196) → px_lg lv 1 = some (oI n) → px_lg lv 4 = some (oI w) → px_lg lv 5 = some (.inr (.inl all)) → px_lg lv 7 = some (.inr (.inl most)) → px_lg lv 9 = some (oI f) → px_lg lv 10 = some (oI s) → px_lg lv 11 = some (oI (a : Int)) → t_X d 243 118 lv [] g P := by
  intro m
  induction m with
  | zero =>
    intro a g most f s lv hm ha hf hJ h71 l0 l1 l4 l5 l7 l9 l10 l11
    refine t_0 qsy_118 rfl (ld_i l11) ?_
    refine t_0 qsy_120 rfl (ld_i l1) ?_
    refine tb_ge qsy_121 (by decide) ⟨by omega, by omega⟩ ⟨by omega, by omega⟩ (fun c1 => ?_) (fun c1 => absurd c1 (by omega))
    show t_X d 243 204 lv [] g P
    refine t_0 qsy_204 rfl (ld_i l9) ?_
    refine t_0 qsy_206 rfl rfl ?_
    refine tb_ne qsy_207 (by decide) ⟨by omega, by omega⟩ ⟨by omega, by omega⟩ (fun c2 => ?_) (fun c2 => ?_)
    · show t_X d 243 216 lv [] g P
      refine t_0 qsy_216 rfl (ld_i l4) ?_
      refine t_0 qsy_218 rfl rfl ?_
      refine tb_ne qsy_219 (by decide) ⟨by omega, by omega⟩ ⟨by omega, by omega⟩ (fun c3 => ?_) (fun c3 => ?_)
      · show t_X d 243 233 lv [] g P
        refine t_0 qsy_233 rfl (ld_i l4) ?_
        refine t_0 qsy_235 rfl rfl ?_
        refine tb_ne qsy_236 (by decide) ⟨by omega, by omega⟩ ⟨by omega, by omega⟩ (fun c4 => ?_) (fun c4 => ?_)
        · show t_X d 243 250 lv [] g P
          refine t_0 qsy_250 rfl (ld_l l7) ?_
          refine t_5 qsy_252 rfl rfl ?_
          exact hP _ _ hJ
        · show t_X d 243 239 lv [] g P
          refine t_0 qsy_239 rfl (ld_a l0) ?_
          refine t_0 qsy_240 rfl (ar_68 hJ.1) ?_
          refine t_0 qsy_243 rfl (ld_i l10) ?_
          refine t_0 qsy_245 rfl (pq_ia el_238 rfl ⟨by omega, by omega⟩) ?_
          have r5 := gb_a hJ.1 el_238 (j := s.toNat) (by omega) ga_238
          refine t_0 qsy_246 rfl rfl ?_
          refine t_1 qsy_247 rfl (pb_goto (pc := 247) (by decide)) ?_
          show t_X d 243 252 lv [.inr (.inl (Int32.toInt64 (Int32.ofInt (fA g 238 s.toNat))))] g P
          refine t_5 qsy_252 rfl rfl ?_
          exact hP _ _ hJ
      · show t_X d 243 222 lv [] g P
        refine t_0 qsy_222 rfl (ld_a l0) ?_
        refine t_0 qsy_223 rfl (ar_68 hJ.1) ?_
        refine t_0 qsy_226 rfl (ld_i l9) ?_
        refine t_0 qsy_228 rfl (pq_ia el_238 rfl ⟨by omega, by omega⟩) ?_
        have r6 := gb_a hJ.1 el_238 (j := f.toNat) (by omega) ga_238
        refine t_0 qsy_229 rfl rfl ?_
        refine t_1 qsy_230 rfl (pb_goto (pc := 230) (by decide)) ?_
        show t_X d 243 252 lv [.inr (.inl (Int32.toInt64 (Int32.ofInt (fA g 238 f.toNat))))] g P
        refine t_5 qsy_252 rfl rfl ?_
        exact hP _ _ hJ
    · show t_X d 243 210 lv [] g P
      refine t_0 qsy_210 rfl rfl ?_
      refine t_1 qsy_213 rfl (pb_goto (pc := 213) (by decide)) ?_
      show t_X d 243 252 lv [.inr (.inl (xe_k 9223372036854775806))] g P
      refine t_5 qsy_252 rfl rfl ?_
      exact hP _ _ hJ
  | succ m ih =>
    intro a g most f s lv hm ha hf hJ h71 l0 l1 l4 l5 l7 l9 l10 l11
    by_cases hge : n ≤ a
    · refine t_0 qsy_118 rfl (ld_i l11) ?_
      refine t_0 qsy_120 rfl (ld_i l1) ?_
      refine tb_ge qsy_121 (by decide) ⟨by omega, by omega⟩ ⟨by omega, by omega⟩ (fun c1 => ?_) (fun c1 => absurd c1 (by omega))
      show t_X d 243 204 lv [] g P
      refine t_0 qsy_204 rfl (ld_i l9) ?_
      refine t_0 qsy_206 rfl rfl ?_
      refine tb_ne qsy_207 (by decide) ⟨by omega, by omega⟩ ⟨by omega, by omega⟩ (fun c2 => ?_) (fun c2 => ?_)
      · show t_X d 243 216 lv [] g P
        refine t_0 qsy_216 rfl (ld_i l4) ?_
        refine t_0 qsy_218 rfl rfl ?_
        refine tb_ne qsy_219 (by decide) ⟨by omega, by omega⟩ ⟨by omega, by omega⟩ (fun c3 => ?_) (fun c3 => ?_)
        · show t_X d 243 233 lv [] g P
          refine t_0 qsy_233 rfl (ld_i l4) ?_
          refine t_0 qsy_235 rfl rfl ?_
          refine tb_ne qsy_236 (by decide) ⟨by omega, by omega⟩ ⟨by omega, by omega⟩ (fun c4 => ?_) (fun c4 => ?_)
          · show t_X d 243 250 lv [] g P
            refine t_0 qsy_250 rfl (ld_l l7) ?_
            refine t_5 qsy_252 rfl rfl ?_
            exact hP _ _ hJ
          · show t_X d 243 239 lv [] g P
            refine t_0 qsy_239 rfl (ld_a l0) ?_
            refine t_0 qsy_240 rfl (ar_68 hJ.1) ?_
            refine t_0 qsy_243 rfl (ld_i l10) ?_
            refine t_0 qsy_245 rfl (pq_ia el_238 rfl ⟨by omega, by omega⟩) ?_
            have r5 := gb_a hJ.1 el_238 (j := s.toNat) (by omega) ga_238
            refine t_0 qsy_246 rfl rfl ?_
            refine t_1 qsy_247 rfl (pb_goto (pc := 247) (by decide)) ?_
            show t_X d 243 252 lv [.inr (.inl (Int32.toInt64 (Int32.ofInt (fA g 238 s.toNat))))] g P
            refine t_5 qsy_252 rfl rfl ?_
            exact hP _ _ hJ
        · show t_X d 243 222 lv [] g P
          refine t_0 qsy_222 rfl (ld_a l0) ?_
          refine t_0 qsy_223 rfl (ar_68 hJ.1) ?_
          refine t_0 qsy_226 rfl (ld_i l9) ?_
          refine t_0 qsy_228 rfl (pq_ia el_238 rfl ⟨by omega, by omega⟩) ?_
          have r6 := gb_a hJ.1 el_238 (j := f.toNat) (by omega) ga_238
          refine t_0 qsy_229 rfl rfl ?_
          refine t_1 qsy_230 rfl (pb_goto (pc := 230) (by decide)) ?_
          show t_X d 243 252 lv [.inr (.inl (Int32.toInt64 (Int32.ofInt (fA g 238 f.toNat))))] g P
          refine t_5 qsy_252 rfl rfl ?_
          exact hP _ _ hJ
      · show t_X d 243 210 lv [] g P
        refine t_0 qsy_210 rfl rfl ?_
        refine t_1 qsy_213 rfl (pb_goto (pc := 213) (by decide)) ?_
        show t_X d 243 252 lv [.inr (.inl (xe_k 9223372036854775806))] g P
        refine t_5 qsy_252 rfl rfl ?_
        exact hP _ _ hJ
    refine t_0 qsy_118 rfl (ld_i l11) ?_
    refine t_0 qsy_120 rfl (ld_i l1) ?_
    refine tb_ge qsy_121 (by decide) ⟨by omega, by omega⟩ ⟨by omega, by omega⟩ (fun c1 => absurd c1 (by omega)) (fun c1 => ?_)
    show t_X d 243 124 lv [] g P
    refine t_0 qsy_124 rfl (ld_i l11) ?_
    refine t_0 qsy_126 rfl rfl ?_
    refine t_0 qsy_127 rfl pq_add ?_
    refine t_2 qsy_128 rfl (w := (px_s1 lv 12 (oI ((a : Int) + 1)), [])) rfl ?_
    replace l0 : px_lg (px_s1 lv 12 (oI ((a : Int) + 1))) 0 = some (pvR 196) := s1_ne (by decide) (fun _ => rfl) l0
    replace l1 : px_lg (px_s1 lv 12 (oI ((a : Int) + 1))) 1 = some (oI (n)) := s1_ne (by decide) (fun _ => rfl) l1
    replace l4 : px_lg (px_s1 lv 12 (oI ((a : Int) + 1))) 4 = some (oI (w)) := s1_ne (by decide) (fun _ => rfl) l4
    replace l5 : px_lg (px_s1 lv 12 (oI ((a : Int) + 1))) 5 = some (.inr (.inl (all))) := s1_ne (by decide) (fun z => absurd z (by decide)) l5
    replace l7 : px_lg (px_s1 lv 12 (oI ((a : Int) + 1))) 7 = some (.inr (.inl (most))) := s1_ne (by decide) (fun z => absurd z (by decide)) l7
    replace l9 : px_lg (px_s1 lv 12 (oI ((a : Int) + 1))) 9 = some (oI (f)) := s1_ne (by decide) (fun _ => rfl) l9
    replace l10 : px_lg (px_s1 lv 12 (oI ((a : Int) + 1))) 10 = some (oI (s)) := s1_ne (by decide) (fun _ => rfl) l10
    replace l11 : px_lg (px_s1 lv 12 (oI ((a : Int) + 1))) 11 = some (oI ((a : Int))) := s1_ne (by decide) (fun _ => rfl) l11
    have l12 : px_lg (px_s1 lv 12 (oI ((a : Int) + 1))) 12 = some (oI ((a : Int) + 1)) := s1_eq
    generalize px_s1 lv 12 (oI ((a : Int) + 1)) = lv2 at l0 l1 l4 l5 l7 l9 l10 l11 l12 ⊢
    show t_X d 243 130 lv2 [] g P
    refine sy9_b hd hn (a := a) (by omega) (fun g9 most9 f9 s9 lv9 hf9 hJ9 k9 u0 u1 u4 u5 u7 u9 u10 u11 => ?_) 12 (a + 1) _ _ _ _ _ (by omega) (by omega) hf hJ h71 l0 l1 l4 l5 l7 l9 l10 l11 l12
    refine t_2 qsy_198 rfl (w := (px_s1 lv9 11 (oI ((a : Int) + 1)), [])) (pq_inc u11 (by decide)) ?_
    refine t_1 qsy_201 rfl (pb_goto (pc := 201) (by decide)) ?_
    show t_X d 243 118 _ [] g9 P
    exact ih (a + 1) _ _ _ _ _ (by omega) (by omega) hf9 hJ9 k9 (s1_ne (by decide) (fun _ => rfl) u0) (s1_ne (by decide) (fun _ => rfl) u1) (s1_ne (by decide) (fun _ => rfl) u4) (s1_ne (by decide) (fun z => absurd z (by decide)) u5) (s1_ne (by decide) (fun z => absurd z (by decide)) u7) (s1_ne (by decide) (fun _ => rfl) u9) (s1_ne (by decide) (fun _ => rfl) u10) s1_eq
set_option maxHeartbeats 8000000 in
theorem sp9_run {d : Nat} (hd : 8 ≤ d) {g : pH} (hG : g_I eG g) {n w : Int} (hn : -2147483648 ≤ n ∧ n ≤ 2147483647) (hw : -2147483648 ≤ w ∧ w ≤ 2147483647) {P : Option pv × pH → Prop} (hA : (2 ≤ n ∧ n ≤ 12) ∧ n ≤ fF g 17 → ∀ (g1 : pH) (z : Int64), J_ Ws g g1 → fF g1 17 = 0 → P (some (.inr (.inl z)), g1)) (hR : ∀ z : Int64, ¬ ((2 ≤ n ∧ n ≤ 12) ∧ n ≤ fF g 17) → P (some (.inr (.inl z)), g)) {lv : List (Nat × pv)} (l0 : px_lg lv 0 = some (pvR 196)) (l1 : px_lg lv 1 = some (oI n)) (l2 : px_lg lv 2 = some (oI w)) : t_X d 254 0 lv [] g P := by
  have w_17 := Ws_1.1
  have hJ0 : J_ Ws g g := J_rf hG
  refine t_0 qsp_0 rfl (ld_i l1) ?_
  refine t_0 qsp_1 rfl rfl ?_
  refine t_0 qsp_2 rfl (pq_b (by decide)) ?_
  refine t_3 qsp_4 rfl (ar := ([oI (n), oI (2), oI (12)], [])) (pcal_s ⟨Or.inl rfl, rfl, Nat.le_of_ble_eq_true rfl⟩) ⟨by omega, Nat.le_of_ble_eq_true rfl, Nat.le_of_ble_eq_true rfl, rfl⟩ ?_
  refine in_run ⟨by omega, by omega⟩ ⟨by omega, by omega⟩ ⟨by omega, by omega⟩ rfl rfl rfl (fun t1 => ?_) (fun t1 => ?_)
  · show t_X d 254 7 lv [oI (1)] g P
    refine tz_eq qsp_7 (by decide) ⟨by omega, by omega⟩ (fun c2 => absurd c2 (by omega)) (fun c2 => ?_)
    show t_X d 254 10 lv [] g P
    refine t_0 qsp_10 rfl (ld_i l1) ?_
    refine t_0 qsp_11 rfl (ld_a l0) ?_
    have r3 := gb_f hJ0.1 (y := 17) rfl rfl gf_17
    refine t_0 qsp_12 rfl (pq_gf (y := 17) rfl) ?_
    refine tb_le qsp_15 (by decide) ⟨by omega, by omega⟩ ⟨by omega, by omega⟩ (fun c4 => ?_) (fun c4 => ?_)
    · show t_X d 254 22 lv [] g P
      refine t_0 qsp_22 rfl (ld_a l0) ?_
      refine t_0 qsp_23 rfl rfl ?_
      refine tw_f qsp_24 rfl hJ0 w_17 gf_17 (by decide) ⟨by omega, by omega⟩ (fun g5 hJ5 v5 f5 a5 => ?_)
      have hP : ∀ (g1 : pH) (z : Int64), J_ Ws9 g5 g1 → P (some (.inr (.inl z)), g1) := fun g1 z h => hA (by omega) g1 z (J_up Ws9_2 hJ5 h) ((fF_M h.2 Ws9_1.1).trans v5)
      replace hJ5 : J_ Ws9 g5 g5 := J_rf hJ5.1
      replace a5 := fA_2 a5
      show t_X d 254 27 lv [] g5 P
      refine t_0 qsp_27 rfl (ld_a l0) ?_
      refine t_0 qsp_28 rfl (ld_i l1) ?_
      refine t_3 qsp_29 rfl (ar := ([pvR 196, oI (n)], [])) (pcal_v1 rfl rfl el_196) ⟨by omega, Nat.le_of_ble_eq_true rfl, Nat.le_of_ble_eq_true rfl, rfl⟩ ?_
      refine ts_run (by omega) hJ5.1 (by rw [oT (by omega) (by omega)]; omega) rfl rfl (fun g6 hA6 => ?_) (fun g6 hA6 e6 => ?_)
      · have hJ6 := J_up Ws9_1.2.2.1 hJ5 hA6
        show t_X d 254 32 lv [oI (0)] g6 P
        refine tz_ne qsp_32 (by decide) ⟨by omega, by omega⟩ (fun c7 => absurd c7 (by omega)) (fun c7 => ?_)
        show t_X d 254 35 lv [] g6 P
        refine t_0 qsp_35 rfl rfl ?_
        refine t_5 qsp_38 rfl rfl ?_
        exact hP _ _ hJ6
      · have hJ6 := J_up Ws9_1.2.2.1 hJ5 hA6
        have h71 : fF g6 71 = (n.toNat : Int) := by
          show (g6.1 196 71).toInt = _
          rw [e6, oT (by omega) (by omega)]
          omega
        show t_X d 254 32 lv [oI (1)] g6 P
        refine tz_ne qsp_32 (by decide) ⟨by omega, by omega⟩ (fun c8 => ?_) (fun c8 => absurd c8 (by omega))
        show t_X d 254 39 lv [] g6 P
        refine t_0 qsp_39 rfl (ld_i l2) ?_
        have hs2 : n.toNat ≤ 12 := by omega
        refine t_0 qsp_40 rfl rfl ?_
        refine t_0 qsp_41 rfl (ld_i l1) ?_
        refine t_0 qsp_42 rfl rfl ?_
        refine t_0 qsp_43 rfl pq_sub ?_
        refine t_3 qsp_44 rfl (ar := ([oI (w), oI ((-1)), oI (n - 1)], [])) (pcal_s ⟨Or.inl rfl, rfl, Nat.le_of_ble_eq_true rfl⟩) ⟨by omega, Nat.le_of_ble_eq_true rfl, Nat.le_of_ble_eq_true rfl, rfl⟩ ?_
        refine in_run ⟨by omega, by omega⟩ ⟨by omega, by omega⟩ ⟨by omega, by omega⟩ rfl rfl rfl (fun t9 => ?_) (fun t9 => ?_)
        · show t_X d 254 47 lv [oI (1)] g6 P
          refine tz_ne qsp_47 (by decide) ⟨by omega, by omega⟩ (fun c10 => ?_) (fun c10 => absurd c10 (by omega))
          show t_X d 254 54 lv [] g6 P
          refine t_0 qsp_54 rfl (ld_a l0) ?_
          refine t_0 qsp_55 rfl rfl ?_
          refine t_0 qsp_56 rfl rfl ?_
          refine t_3 qsp_57 rfl (ar := ([pvR 196, oI ((-1)), oI ((-1))], [])) (pcal_v2 rfl rfl el_196) ⟨by omega, Nat.le_of_ble_eq_true rfl, Nat.le_of_ble_eq_true rfl, rfl⟩ ?_
          refine lo_run (by omega) hs2 h71 (Or.inl rfl) (fun g11 hA11 hZ11 => ?_) hJ6.1 rfl rfl rfl
          have hJ11 := J_up Ws9_1.2.2.2 hJ6 hA11
          show t_X d 254 60 lv [.inr (.inl (Lw g11 0))] g11 P
          refine t_2 qsp_60 rfl (w := (px_s2 lv 3 (.inr (.inl (Lw g11 0))), [])) rfl ?_
          replace l0 : px_lg (px_s2 lv 3 (.inr (.inl (Lw g11 0)))) 0 = some (pvR 196) := s2_ne (by decide) (fun _ => rfl) l0
          replace l1 : px_lg (px_s2 lv 3 (.inr (.inl (Lw g11 0)))) 1 = some (oI (n)) := s2_ne (by decide) (fun _ => rfl) l1
          replace l2 : px_lg (px_s2 lv 3 (.inr (.inl (Lw g11 0)))) 2 = some (oI (w)) := s2_ne (by decide) (fun _ => rfl) l2
          have l3 : px_lg (px_s2 lv 3 (.inr (.inl (Lw g11 0)))) 3 = some (.inr (.inl (Lw g11 0))) := s2_eq
          generalize px_s2 lv 3 (.inr (.inl (Lw g11 0))) = lv12 at l0 l1 l2 l3 ⊢
          show t_X d 254 61 lv12 [] g11 P
          refine t_0 qsp_61 rfl (ld_i l2) ?_
          refine t_0 qsp_62 rfl rfl ?_
          refine tb_ne qsp_63 (by decide) ⟨by omega, by omega⟩ ⟨by omega, by omega⟩ (fun c13 => ?_) (fun c13 => ?_)
          · show t_X d 254 68 lv12 [] g11 P
            refine t_0 qsp_68 rfl (ld_l l3) ?_
            refine t_0 qsp_69 rfl rfl ?_
            refine t_0 qsp_70 rfl rfl ?_
            refine tx_ne qsp_71 (by decide) (fun c14 => ?_) (fun c14 => ?_)
            · show t_X d 254 78 lv12 [] g11 P
              refine t_0 qsp_78 rfl rfl ?_
              refine t_2 qsp_79 rfl (w := (px_s1 lv12 5 (oI (0)), [])) rfl ?_
              replace l0 : px_lg (px_s1 lv12 5 (oI (0))) 0 = some (pvR 196) := s1_ne (by decide) (fun _ => rfl) l0
              replace l1 : px_lg (px_s1 lv12 5 (oI (0))) 1 = some (oI (n)) := s1_ne (by decide) (fun _ => rfl) l1
              replace l2 : px_lg (px_s1 lv12 5 (oI (0))) 2 = some (oI (w)) := s1_ne (by decide) (fun _ => rfl) l2
              replace l3 : px_lg (px_s1 lv12 5 (oI (0))) 3 = some (.inr (.inl (Lw g11 0))) := s1_ne (by decide) (fun z => absurd z (by decide)) l3
              have l5 : px_lg (px_s1 lv12 5 (oI (0))) 5 = some (oI (0)) := s1_eq
              generalize px_s1 lv12 5 (oI (0)) = lv15 at l0 l1 l2 l3 l5 ⊢
              show t_X d 254 81 lv15 [] g11 P
              refine t_0 qsp_81 rfl rfl ?_
              refine t_2 qsp_82 rfl (w := (px_s1 lv15 6 (oI (0)), [])) rfl ?_
              replace l0 : px_lg (px_s1 lv15 6 (oI (0))) 0 = some (pvR 196) := s1_ne (by decide) (fun _ => rfl) l0
              replace l1 : px_lg (px_s1 lv15 6 (oI (0))) 1 = some (oI (n)) := s1_ne (by decide) (fun _ => rfl) l1
              replace l2 : px_lg (px_s1 lv15 6 (oI (0))) 2 = some (oI (w)) := s1_ne (by decide) (fun _ => rfl) l2
              replace l3 : px_lg (px_s1 lv15 6 (oI (0))) 3 = some (.inr (.inl (Lw g11 0))) := s1_ne (by decide) (fun z => absurd z (by decide)) l3
              replace l5 : px_lg (px_s1 lv15 6 (oI (0))) 5 = some (oI (0)) := s1_ne (by decide) (fun _ => rfl) l5
              have l6 : px_lg (px_s1 lv15 6 (oI (0))) 6 = some (oI (0)) := s1_eq
              generalize px_s1 lv15 6 (oI (0)) = lv16 at l0 l1 l2 l3 l5 l6 ⊢
              show t_X d 254 84 lv16 [] g11 P
              refine t_0 qsp_84 rfl rfl ?_
              refine t_2 qsp_85 rfl (w := (px_s1 lv16 7 (oI (0)), [])) rfl ?_
              replace l0 : px_lg (px_s1 lv16 7 (oI (0))) 0 = some (pvR 196) := s1_ne (by decide) (fun _ => rfl) l0
              replace l1 : px_lg (px_s1 lv16 7 (oI (0))) 1 = some (oI (n)) := s1_ne (by decide) (fun _ => rfl) l1
              replace l2 : px_lg (px_s1 lv16 7 (oI (0))) 2 = some (oI (w)) := s1_ne (by decide) (fun _ => rfl) l2
              replace l3 : px_lg (px_s1 lv16 7 (oI (0))) 3 = some (.inr (.inl (Lw g11 0))) := s1_ne (by decide) (fun z => absurd z (by decide)) l3
              replace l5 : px_lg (px_s1 lv16 7 (oI (0))) 5 = some (oI (0)) := s1_ne (by decide) (fun _ => rfl) l5
              replace l6 : px_lg (px_s1 lv16 7 (oI (0))) 6 = some (oI (0)) := s1_ne (by decide) (fun _ => rfl) l6
              have l7 : px_lg (px_s1 lv16 7 (oI (0))) 7 = some (oI (0)) := s1_eq
              generalize px_s1 lv16 7 (oI (0)) = lv17 at l0 l1 l2 l3 l5 l6 l7 ⊢
              show t_X d 254 87 lv17 [] g11 P
              exact sp_q (by omega) hs2 (J_rf hJ11.1) (w := w) (by omega) hZ11 (fun z => hP _ z hJ11) (w + 1).toNat 0 0 0 _ (by omega) (by omega) (by decide) ⟨Nat.two_pow_pos _, by decide⟩ (fun z => c14 (lg_0.mpr z)) l0 l2 l5 l6 l7
            · show t_X d 254 74 lv12 [] g11 P
              refine t_0 qsp_74 rfl rfl ?_
              refine t_5 qsp_77 rfl rfl ?_
              exact hP _ _ hJ11
          · show t_X d 254 66 lv12 [] g11 P
            refine t_0 qsp_66 rfl (ld_l l3) ?_
            refine t_5 qsp_67 rfl rfl ?_
            exact hP _ _ hJ11
        · show t_X d 254 47 lv [oI (0)] g6 P
          refine tz_ne qsp_47 (by decide) ⟨by omega, by omega⟩ (fun c18 => absurd c18 (by omega)) (fun c18 => ?_)
          show t_X d 254 50 lv [] g6 P
          refine t_0 qsp_50 rfl rfl ?_
          refine t_5 qsp_53 rfl rfl ?_
          exact hP _ _ hJ6
    · show t_X d 254 18 lv [] g P
      refine t_0 qsp_18 rfl rfl ?_
      refine t_5 qsp_21 rfl rfl ?_
      exact hR _ (by omega)
  · show t_X d 254 7 lv [oI (0)] g P
    refine tz_eq qsp_7 (by decide) ⟨by omega, by omega⟩ (fun c19 => ?_) (fun c19 => absurd c19 (by omega))
    show t_X d 254 18 lv [] g P
    refine t_0 qsp_18 rfl rfl ?_
    refine t_5 qsp_21 rfl rfl ?_
    exact hR _ (by omega)
set_option maxHeartbeats 8000000 in
theorem sy9_run {d : Nat} (hd : 8 ≤ d) {g : pH} (hG : g_I eG g) {n i j w : Int} (hn : -2147483648 ≤ n ∧ n ≤ 2147483647) (hi : -2147483648 ≤ i ∧ i ≤ 2147483647) (hj : -2147483648 ≤ j ∧ j ≤ 2147483647) (hw : -2147483648 ≤ w ∧ w ≤ 2147483647) {P : Option pv × pH → Prop} (hA : (2 ≤ n ∧ n ≤ 12) ∧ (0 ≤ w ∧ w ≤ 3) ∧ n ≤ fF g 17 → ∀ (g1 : pH) (z : Int64), J_ Ws g g1 → fF g1 17 = 0 → P (some (.inr (.inl z)), g1)) (hR : ∀ z : Int64, ¬ ((2 ≤ n ∧ n ≤ 12) ∧ (0 ≤ w ∧ w ≤ 3) ∧ n ≤ fF g 17) → P (some (.inr (.inl z)), g)) {lv : List (Nat × pv)} (l0 : px_lg lv 0 = some (pvR 196)) (l1 : px_lg lv 1 = some (oI n)) (l2 : px_lg lv 2 = some (oI i)) (l3 : px_lg lv 3 = some (oI j)) (l4 : px_lg lv 4 = some (oI w)) : t_X d 243 0 lv [] g P := by
  have w_17 := Ws_1.1
  have hJ0 : J_ Ws g g := J_rf hG
  refine t_0 qsy_0 rfl (ld_i l1) ?_
  refine t_0 qsy_1 rfl rfl ?_
  refine t_0 qsy_2 rfl (pq_b (by decide)) ?_
  refine t_3 qsy_4 rfl (ar := ([oI (n), oI (2), oI (12)], [])) (pcal_s ⟨Or.inl rfl, rfl, Nat.le_of_ble_eq_true rfl⟩) ⟨by omega, Nat.le_of_ble_eq_true rfl, Nat.le_of_ble_eq_true rfl, rfl⟩ ?_
  refine in_run ⟨by omega, by omega⟩ ⟨by omega, by omega⟩ ⟨by omega, by omega⟩ rfl rfl rfl (fun t1 => ?_) (fun t1 => ?_)
  · show t_X d 243 7 lv [oI (1)] g P
    refine tz_eq qsy_7 (by decide) ⟨by omega, by omega⟩ (fun c2 => absurd c2 (by omega)) (fun c2 => ?_)
    show t_X d 243 10 lv [] g P
    refine t_0 qsy_10 rfl (ld_i l4) ?_
    refine t_0 qsy_12 rfl rfl ?_
    refine t_0 qsy_13 rfl rfl ?_
    refine t_3 qsy_14 rfl (ar := ([oI (w), oI (0), oI (3)], [])) (pcal_s ⟨Or.inl rfl, rfl, Nat.le_of_ble_eq_true rfl⟩) ⟨by omega, Nat.le_of_ble_eq_true rfl, Nat.le_of_ble_eq_true rfl, rfl⟩ ?_
    refine in_run ⟨by omega, by omega⟩ ⟨by omega, by omega⟩ ⟨by omega, by omega⟩ rfl rfl rfl (fun t3 => ?_) (fun t3 => ?_)
    · show t_X d 243 17 lv [oI (1)] g P
      refine tz_eq qsy_17 (by decide) ⟨by omega, by omega⟩ (fun c4 => absurd c4 (by omega)) (fun c4 => ?_)
      show t_X d 243 20 lv [] g P
      refine t_0 qsy_20 rfl (ld_i l1) ?_
      refine t_0 qsy_21 rfl (ld_a l0) ?_
      have r5 := gb_f hJ0.1 (y := 17) rfl rfl gf_17
      refine t_0 qsy_22 rfl (pq_gf (y := 17) rfl) ?_
      refine tb_le qsy_25 (by decide) ⟨by omega, by omega⟩ ⟨by omega, by omega⟩ (fun c6 => ?_) (fun c6 => ?_)
      · show t_X d 243 32 lv [] g P
        refine t_0 qsy_32 rfl (ld_a l0) ?_
        refine t_0 qsy_33 rfl rfl ?_
        refine tw_f qsy_34 rfl hJ0 w_17 gf_17 (by decide) ⟨by omega, by omega⟩ (fun g7 hJ7 v7 f7 a7 => ?_)
        have hP : ∀ (g1 : pH) (z : Int64), J_ Ws9 g7 g1 → P (some (.inr (.inl z)), g1) := fun g1 z h => hA (by omega) g1 z (J_up Ws9_2 hJ7 h) ((fF_M h.2 Ws9_1.1).trans v7)
        replace hJ7 : J_ Ws9 g7 g7 := J_rf hJ7.1
        replace a7 := fA_2 a7
        show t_X d 243 37 lv [] g7 P
        refine t_0 qsy_37 rfl (ld_a l0) ?_
        refine t_0 qsy_38 rfl (ld_i l1) ?_
        refine t_3 qsy_39 rfl (ar := ([pvR 196, oI (n)], [])) (pcal_v1 rfl rfl el_196) ⟨by omega, Nat.le_of_ble_eq_true rfl, Nat.le_of_ble_eq_true rfl, rfl⟩ ?_
        refine ts_run (by omega) hJ7.1 (by rw [oT (by omega) (by omega)]; omega) rfl rfl (fun g8 hA8 => ?_) (fun g8 hA8 e8 => ?_)
        · have hJ8 := J_up Ws9_1.2.2.1 hJ7 hA8
          show t_X d 243 42 lv [oI (0)] g8 P
          refine tz_ne qsy_42 (by decide) ⟨by omega, by omega⟩ (fun c9 => absurd c9 (by omega)) (fun c9 => ?_)
          show t_X d 243 45 lv [] g8 P
          refine t_0 qsy_45 rfl rfl ?_
          refine t_5 qsy_48 rfl rfl ?_
          exact hP _ _ hJ8
        · have hJ8 := J_up Ws9_1.2.2.1 hJ7 hA8
          have h71 : fF g8 71 = (n.toNat : Int) := by
            show (g8.1 196 71).toInt = _
            rw [e8, oT (by omega) (by omega)]
            omega
          show t_X d 243 42 lv [oI (1)] g8 P
          refine tz_ne qsy_42 (by decide) ⟨by omega, by omega⟩ (fun c10 => ?_) (fun c10 => absurd c10 (by omega))
          show t_X d 243 49 lv [] g8 P
          have hs2 : n.toNat ≤ 12 := by omega
          refine t_0 qsy_49 rfl (ld_i l4) ?_
          refine tz_ne qsy_51 (by decide) ⟨by omega, by omega⟩ (fun c11 => ?_) (fun c11 => ?_)
          · show t_X d 243 98 lv [] g8 P
            refine t_0 qsy_98 rfl (ld_a l0) ?_
            refine t_0 qsy_99 rfl rfl ?_
            refine t_0 qsy_100 rfl rfl ?_
            refine t_3 qsy_101 rfl (ar := ([pvR 196, oI ((-1)), oI ((-1))], [])) (pcal_v2 rfl rfl el_196) ⟨by omega, Nat.le_of_ble_eq_true rfl, Nat.le_of_ble_eq_true rfl, rfl⟩ ?_
            refine lo_run (by omega) hs2 h71 (Or.inl rfl) (fun g12 hA12 hZ12 => ?_) hJ8.1 rfl rfl rfl
            have hJ12 := J_up Ws9_1.2.2.2 hJ8 hA12
            show t_X d 243 104 lv [.inr (.inl (Lw g12 0))] g12 P
            refine t_2 qsy_104 rfl (w := (px_s2 lv 5 (.inr (.inl (Lw g12 0))), [])) rfl ?_
            replace l0 : px_lg (px_s2 lv 5 (.inr (.inl (Lw g12 0)))) 0 = some (pvR 196) := s2_ne (by decide) (fun _ => rfl) l0
            replace l1 : px_lg (px_s2 lv 5 (.inr (.inl (Lw g12 0)))) 1 = some (oI (n)) := s2_ne (by decide) (fun _ => rfl) l1
            replace l2 : px_lg (px_s2 lv 5 (.inr (.inl (Lw g12 0)))) 2 = some (oI (i)) := s2_ne (by decide) (fun _ => rfl) l2
            replace l3 : px_lg (px_s2 lv 5 (.inr (.inl (Lw g12 0)))) 3 = some (oI (j)) := s2_ne (by decide) (fun _ => rfl) l3
            replace l4 : px_lg (px_s2 lv 5 (.inr (.inl (Lw g12 0)))) 4 = some (oI (w)) := s2_ne (by decide) (fun _ => rfl) l4
            have l5 : px_lg (px_s2 lv 5 (.inr (.inl (Lw g12 0)))) 5 = some (.inr (.inl (Lw g12 0))) := s2_eq
            generalize px_s2 lv 5 (.inr (.inl (Lw g12 0))) = lv13 at l0 l1 l2 l3 l4 l5 ⊢
            show t_X d 243 106 lv13 [] g12 P
            refine t_0 qsy_106 rfl rfl ?_
            refine t_2 qsy_107 rfl (w := (px_s2 lv13 7 (.inr (.inl (Int64.ofNat 0))), [])) rfl ?_
            replace l0 : px_lg (px_s2 lv13 7 (.inr (.inl (Int64.ofNat 0)))) 0 = some (pvR 196) := s2_ne (by decide) (fun _ => rfl) l0
            replace l1 : px_lg (px_s2 lv13 7 (.inr (.inl (Int64.ofNat 0)))) 1 = some (oI (n)) := s2_ne (by decide) (fun _ => rfl) l1
            replace l2 : px_lg (px_s2 lv13 7 (.inr (.inl (Int64.ofNat 0)))) 2 = some (oI (i)) := s2_ne (by decide) (fun _ => rfl) l2
            replace l3 : px_lg (px_s2 lv13 7 (.inr (.inl (Int64.ofNat 0)))) 3 = some (oI (j)) := s2_ne (by decide) (fun _ => rfl) l3
            replace l4 : px_lg (px_s2 lv13 7 (.inr (.inl (Int64.ofNat 0)))) 4 = some (oI (w)) := s2_ne (by decide) (fun _ => rfl) l4
            replace l5 : px_lg (px_s2 lv13 7 (.inr (.inl (Int64.ofNat 0)))) 5 = some (.inr (.inl (Lw g12 0))) := s2_ne (by decide) (fun z => absurd z (by decide)) l5
            have l7 : px_lg (px_s2 lv13 7 (.inr (.inl (Int64.ofNat 0)))) 7 = some (.inr (.inl (Int64.ofNat 0))) := s2_eq
            generalize px_s2 lv13 7 (.inr (.inl (Int64.ofNat 0))) = lv14 at l0 l1 l2 l3 l4 l5 l7 ⊢
            show t_X d 243 109 lv14 [] g12 P
            refine t_0 qsy_109 rfl rfl ?_
            refine t_2 qsy_110 rfl (w := (px_s1 lv14 9 (oI ((-1))), [])) rfl ?_
            replace l0 : px_lg (px_s1 lv14 9 (oI ((-1)))) 0 = some (pvR 196) := s1_ne (by decide) (fun _ => rfl) l0
            replace l1 : px_lg (px_s1 lv14 9 (oI ((-1)))) 1 = some (oI (n)) := s1_ne (by decide) (fun _ => rfl) l1
            replace l2 : px_lg (px_s1 lv14 9 (oI ((-1)))) 2 = some (oI (i)) := s1_ne (by decide) (fun _ => rfl) l2
            replace l3 : px_lg (px_s1 lv14 9 (oI ((-1)))) 3 = some (oI (j)) := s1_ne (by decide) (fun _ => rfl) l3
            replace l4 : px_lg (px_s1 lv14 9 (oI ((-1)))) 4 = some (oI (w)) := s1_ne (by decide) (fun _ => rfl) l4
            replace l5 : px_lg (px_s1 lv14 9 (oI ((-1)))) 5 = some (.inr (.inl (Lw g12 0))) := s1_ne (by decide) (fun z => absurd z (by decide)) l5
            replace l7 : px_lg (px_s1 lv14 9 (oI ((-1)))) 7 = some (.inr (.inl (Int64.ofNat 0))) := s1_ne (by decide) (fun z => absurd z (by decide)) l7
            have l9 : px_lg (px_s1 lv14 9 (oI ((-1)))) 9 = some (oI ((-1))) := s1_eq
            generalize px_s1 lv14 9 (oI ((-1))) = lv15 at l0 l1 l2 l3 l4 l5 l7 l9 ⊢
            show t_X d 243 112 lv15 [] g12 P
            refine t_0 qsy_112 rfl rfl ?_
            refine t_2 qsy_113 rfl (w := (px_s1 lv15 10 (oI ((-1))), [])) rfl ?_
            replace l0 : px_lg (px_s1 lv15 10 (oI ((-1)))) 0 = some (pvR 196) := s1_ne (by decide) (fun _ => rfl) l0
            replace l1 : px_lg (px_s1 lv15 10 (oI ((-1)))) 1 = some (oI (n)) := s1_ne (by decide) (fun _ => rfl) l1
            replace l2 : px_lg (px_s1 lv15 10 (oI ((-1)))) 2 = some (oI (i)) := s1_ne (by decide) (fun _ => rfl) l2
            replace l3 : px_lg (px_s1 lv15 10 (oI ((-1)))) 3 = some (oI (j)) := s1_ne (by decide) (fun _ => rfl) l3
            replace l4 : px_lg (px_s1 lv15 10 (oI ((-1)))) 4 = some (oI (w)) := s1_ne (by decide) (fun _ => rfl) l4
            replace l5 : px_lg (px_s1 lv15 10 (oI ((-1)))) 5 = some (.inr (.inl (Lw g12 0))) := s1_ne (by decide) (fun z => absurd z (by decide)) l5
            replace l7 : px_lg (px_s1 lv15 10 (oI ((-1)))) 7 = some (.inr (.inl (Int64.ofNat 0))) := s1_ne (by decide) (fun z => absurd z (by decide)) l7
            replace l9 : px_lg (px_s1 lv15 10 (oI ((-1)))) 9 = some (oI ((-1))) := s1_ne (by decide) (fun _ => rfl) l9
            have l10 : px_lg (px_s1 lv15 10 (oI ((-1)))) 10 = some (oI ((-1))) := s1_eq
            generalize px_s1 lv15 10 (oI ((-1))) = lv16 at l0 l1 l2 l3 l4 l5 l7 l9 l10 ⊢
            show t_X d 243 115 lv16 [] g12 P
            refine t_0 qsy_115 rfl rfl ?_
            refine t_2 qsy_116 rfl (w := (px_s1 lv16 11 (oI (0)), [])) rfl ?_
            replace l0 : px_lg (px_s1 lv16 11 (oI (0))) 0 = some (pvR 196) := s1_ne (by decide) (fun _ => rfl) l0
            replace l1 : px_lg (px_s1 lv16 11 (oI (0))) 1 = some (oI (n)) := s1_ne (by decide) (fun _ => rfl) l1
            replace l2 : px_lg (px_s1 lv16 11 (oI (0))) 2 = some (oI (i)) := s1_ne (by decide) (fun _ => rfl) l2
            replace l3 : px_lg (px_s1 lv16 11 (oI (0))) 3 = some (oI (j)) := s1_ne (by decide) (fun _ => rfl) l3
            replace l4 : px_lg (px_s1 lv16 11 (oI (0))) 4 = some (oI (w)) := s1_ne (by decide) (fun _ => rfl) l4
            replace l5 : px_lg (px_s1 lv16 11 (oI (0))) 5 = some (.inr (.inl (Lw g12 0))) := s1_ne (by decide) (fun z => absurd z (by decide)) l5
            replace l7 : px_lg (px_s1 lv16 11 (oI (0))) 7 = some (.inr (.inl (Int64.ofNat 0))) := s1_ne (by decide) (fun z => absurd z (by decide)) l7
            replace l9 : px_lg (px_s1 lv16 11 (oI (0))) 9 = some (oI ((-1))) := s1_ne (by decide) (fun _ => rfl) l9
            replace l10 : px_lg (px_s1 lv16 11 (oI (0))) 10 = some (oI ((-1))) := s1_ne (by decide) (fun _ => rfl) l10
            have l11 : px_lg (px_s1 lv16 11 (oI (0))) 11 = some (oI (0)) := s1_eq
            generalize px_s1 lv16 11 (oI (0)) = lv17 at l0 l1 l2 l3 l4 l5 l7 l9 l10 l11 ⊢
            show t_X d 243 118 lv17 [] g12 P
            exact sy9_a (by omega) hw (by omega) hP 12 0 _ _ (-1) (-1) _ (by omega) (by omega) (Or.inl ⟨rfl, rfl⟩) hJ12 (by rw [fF_M hA12.2 Wo_1.2.2.2.1, h71]) l0 l1 l4 l5 l7 l9 l10 l11
          · show t_X d 243 54 lv [] g8 P
            refine t_0 qsy_54 rfl (ld_a l0) ?_
            refine t_0 qsy_55 rfl (ld_i l2) ?_
            refine t_3 qsy_56 rfl (ar := ([pvR 196, oI (i)], [])) (pcal_v1 rfl rfl el_196) ⟨by omega, Nat.le_of_ble_eq_true rfl, Nat.le_of_ble_eq_true rfl, rfl⟩ ?_
            refine sa_run hJ8.1 ⟨by omega, by omega⟩ (fun z18 hz18 => ?_) rfl rfl
            have hy18 : -1 ≤ z18 ∧ z18 < 12 := by
              rcases hz18 with h | h
              · omega
              · have := gb_f hJ8.1 (y := 71) rfl rfl gf_71
                omega
            show t_X d 243 59 lv [oI (z18)] g8 P
            refine t_0 qsy_59 rfl rfl ?_
            refine tb_eq qsy_60 (by decide) ⟨by omega, by omega⟩ ⟨by omega, by omega⟩ (fun c19 => ?_) (fun c19 => ?_)
            · show t_X d 243 77 lv [] g8 P
              refine t_0 qsy_77 rfl rfl ?_
              refine t_1 qsy_80 rfl (pb_goto (pc := 80) (by decide)) ?_
              show t_X d 243 97 lv [.inr (.inl (xe_k 9223372036854775805))] g8 P
              refine t_5 qsy_97 rfl rfl ?_
              exact hP _ _ hJ8
            · show t_X d 243 63 lv [] g8 P
              refine t_0 qsy_63 rfl (ld_a l0) ?_
              refine t_0 qsy_64 rfl (ld_i l3) ?_
              refine t_3 qsy_65 rfl (ar := ([pvR 196, oI (j)], [])) (pcal_v1 rfl rfl el_196) ⟨by omega, Nat.le_of_ble_eq_true rfl, Nat.le_of_ble_eq_true rfl, rfl⟩ ?_
              refine sa_run hJ8.1 ⟨by omega, by omega⟩ (fun z20 hz20 => ?_) rfl rfl
              have hy20 : -1 ≤ z20 ∧ z20 < 12 := by
                rcases hz20 with h | h
                · omega
                · have := gb_f hJ8.1 (y := 71) rfl rfl gf_71
                  omega
              show t_X d 243 68 lv [oI (z20)] g8 P
              refine t_0 qsy_68 rfl rfl ?_
              refine tb_eq qsy_69 (by decide) ⟨by omega, by omega⟩ ⟨by omega, by omega⟩ (fun c21 => ?_) (fun c21 => ?_)
              · show t_X d 243 77 lv [] g8 P
                refine t_0 qsy_77 rfl rfl ?_
                refine t_1 qsy_80 rfl (pb_goto (pc := 80) (by decide)) ?_
                show t_X d 243 97 lv [.inr (.inl (xe_k 9223372036854775805))] g8 P
                refine t_5 qsy_97 rfl rfl ?_
                exact hP _ _ hJ8
              · show t_X d 243 72 lv [] g8 P
                refine t_0 qsy_72 rfl (ld_i l2) ?_
                refine t_0 qsy_73 rfl (ld_i l3) ?_
                refine tb_ne qsy_74 (by decide) ⟨by omega, by omega⟩ ⟨by omega, by omega⟩ (fun c22 => ?_) (fun c22 => ?_)
                · show t_X d 243 83 lv [] g8 P
                  refine t_0 qsy_83 rfl (ld_a l0) ?_
                  refine t_0 qsy_84 rfl (ld_a l0) ?_
                  refine t_0 qsy_85 rfl (ld_i l2) ?_
                  refine t_3 qsy_86 rfl (ar := ([pvR 196, oI (i)], [pvR 196])) (pcal_v1 rfl rfl el_196) ⟨by omega, Nat.le_of_ble_eq_true rfl, Nat.le_of_ble_eq_true rfl, rfl⟩ ?_
                  refine sa_run hJ8.1 ⟨by omega, by omega⟩ (fun z23 hz23 => ?_) rfl rfl
                  have hy23 : -1 ≤ z23 ∧ z23 < 12 := by
                    rcases hz23 with h | h
                    · omega
                    · have := gb_f hJ8.1 (y := 71) rfl rfl gf_71
                      omega
                  have hn23 : 0 ≤ z23 := by
                    rcases hz23 with h | h
                    · rcases hz18 with u | u
                      · omega
                      · exact absurd u.2.2 (h.2 z18.toNat (by omega))
                    · exact h.1
                  show t_X d 243 89 lv [oI (z23), pvR 196] g8 P
                  refine t_0 qsy_89 rfl (ld_a l0) ?_
                  refine t_0 qsy_90 rfl (ld_i l3) ?_
                  refine t_3 qsy_91 rfl (ar := ([pvR 196, oI (j)], [oI (z23), pvR 196])) (pcal_v1 rfl rfl el_196) ⟨by omega, Nat.le_of_ble_eq_true rfl, Nat.le_of_ble_eq_true rfl, rfl⟩ ?_
                  refine sa_run hJ8.1 ⟨by omega, by omega⟩ (fun z24 hz24 => ?_) rfl rfl
                  have hy24 : -1 ≤ z24 ∧ z24 < 12 := by
                    rcases hz24 with h | h
                    · omega
                    · have := gb_f hJ8.1 (y := 71) rfl rfl gf_71
                      omega
                  have hn24 : 0 ≤ z24 := by
                    rcases hz24 with h | h
                    · rcases hz20 with u | u
                      · omega
                      · exact absurd u.2.2 (h.2 z20.toNat (by omega))
                    · exact h.1
                  show t_X d 243 94 lv [oI (z24), oI (z23), pvR 196] g8 P
                  refine t_3 qsy_94 rfl (ar := ([pvR 196, oI (z23), oI (z24)], [])) (pcal_v2 rfl rfl el_196) ⟨by omega, Nat.le_of_ble_eq_true rfl, Nat.le_of_ble_eq_true rfl, rfl⟩ ?_
                  refine lo_run (by omega) hs2 h71 (Or.inr ⟨by omega, by omega, by omega, by omega⟩) (fun g25 hA25 hZ25 => ?_) hJ8.1 rfl rfl rfl
                  have hJ25 := J_up Ws9_1.2.2.2 hJ8 hA25
                  show t_X d 243 97 lv [.inr (.inl (Lw g25 0))] g25 P
                  refine t_5 qsy_97 rfl rfl ?_
                  exact hP _ _ hJ25
                · show t_X d 243 77 lv [] g8 P
                  refine t_0 qsy_77 rfl rfl ?_
                  refine t_1 qsy_80 rfl (pb_goto (pc := 80) (by decide)) ?_
                  show t_X d 243 97 lv [.inr (.inl (xe_k 9223372036854775805))] g8 P
                  refine t_5 qsy_97 rfl rfl ?_
                  exact hP _ _ hJ8
      · show t_X d 243 28 lv [] g P
        refine t_0 qsy_28 rfl rfl ?_
        refine t_5 qsy_31 rfl rfl ?_
        exact hR _ (by omega)
    · show t_X d 243 17 lv [oI (0)] g P
      refine tz_eq qsy_17 (by decide) ⟨by omega, by omega⟩ (fun c26 => ?_) (fun c26 => absurd c26 (by omega))
      show t_X d 243 28 lv [] g P
      refine t_0 qsy_28 rfl rfl ?_
      refine t_5 qsy_31 rfl rfl ?_
      exact hR _ (by omega)
  · show t_X d 243 7 lv [oI (0)] g P
    refine tz_eq qsy_7 (by decide) ⟨by omega, by omega⟩ (fun c27 => ?_) (fun c27 => absurd c27 (by omega))
    show t_X d 243 28 lv [] g P
    refine t_0 qsy_28 rfl rfl ?_
    refine t_5 qsy_31 rfl rfl ?_
    exact hR _ (by omega)

