/-! by hand: takesSpilt (printed in part by wip/e2/ts.py) -/
theorem qh_0 : xe_look (xc 196) 0 = some (.iload_n 0, 1, 0, 0, 0) := by decide +kernel
theorem qh_1 : xe_look (xc 196) 1 = some (.iload_n 1, 1, 0, 0, 0) := by decide +kernel
theorem qh_2 : xe_look (xc 196) 2 = some (.ishr, 1, 0, 0, 0) := by decide +kernel
theorem qh_3 : xe_look (xc 196) 3 = some (.iconst 1, 1, 0, 0, 0) := by decide +kernel
theorem qh_4 : xe_look (xc 196) 4 = some (.iand, 1, 0, 0, 0) := by decide +kernel
theorem qh_5 : xe_look (xc 196) 5 = some (.iconst 1, 1, 0, 0, 0) := by decide +kernel
theorem qh_6 : xe_look (xc 196) 6 = some (.if_icmp .ne 7, 3, 0, 0, 0) := by decide +kernel
theorem qh_9 : xe_look (xc 196) 9 = some (.iconst 1, 1, 0, 0, 0) := by decide +kernel
theorem qh_10 : xe_look (xc 196) 10 = some (.goto 4, 3, 0, 0, 0) := by decide +kernel
theorem qh_13 : xe_look (xc 196) 13 = some (.iconst 0, 1, 0, 0, 0) := by decide +kernel
theorem qh_14 : xe_look (xc 196) 14 = some (.ireturn, 1, 0, 0, 0) := by decide +kernel
theorem qc_0 : xe_look (xc 205) 0 = some (.iload_n 1, 1, 0, 0, 0) := by decide +kernel
theorem qc_1 : xe_look (xc 205) 1 = some (.ifCond .lt 24, 3, 0, 0, 0) := by decide +kernel
theorem qc_4 : xe_look (xc 205) 4 = some (.iload_n 1, 1, 0, 0, 0) := by decide +kernel
theorem qc_5 : xe_look (xc 205) 5 = some (.bipush 32, 2, 0, 0, 0) := by decide +kernel
theorem qc_7 : xe_look (xc 205) 7 = some (.if_icmp .ge 18, 3, 0, 0, 0) := by decide +kernel
theorem qc_10 : xe_look (xc 205) 10 = some (.aload_n 0, 1, 0, 0, 0) := by decide +kernel
theorem qc_11 : xe_look (xc 205) 11 = some (.getfield 183, 3, 12, 0, 1158) := by decide +kernel
theorem qc_14 : xe_look (xc 205) 14 = some (.iload_n 1, 1, 0, 0, 0) := by decide +kernel
theorem qc_15 : xe_look (xc 205) 15 = some (.invokestatic 187, 3, 0, 196, 1121) := by decide +kernel
theorem qc_18 : xe_look (xc 205) 18 = some (.ifCond .eq 7, 3, 0, 0, 0) := by decide +kernel
theorem qc_21 : xe_look (xc 205) 21 = some (.iconst 1, 1, 0, 0, 0) := by decide +kernel
theorem qc_22 : xe_look (xc 205) 22 = some (.goto 4, 3, 0, 0, 0) := by decide +kernel
theorem qc_25 : xe_look (xc 205) 25 = some (.iconst 0, 1, 0, 0, 0) := by decide +kernel
theorem qc_26 : xe_look (xc 205) 26 = some (.ireturn, 1, 0, 0, 0) := by decide +kernel
theorem qs_0 : xe_look (xc 261) 0 = some (.aload_n 0, 1, 0, 0, 0) := by decide +kernel
theorem qs_1 : xe_look (xc 261) 1 = some (.iload_n 1, 1, 0, 0, 0) := by decide +kernel
theorem qs_2 : xe_look (xc 261) 2 = some (.putfield 491, 3, 12, 71, 1235) := by decide +kernel
theorem qs_5 : xe_look (xc 261) 5 = some (.iconst 0, 1, 0, 0, 0) := by decide +kernel
theorem qs_6 : xe_look (xc 261) 6 = some (.istore_n 2, 1, 0, 0, 0) := by decide +kernel
theorem qs_7 : xe_look (xc 261) 7 = some (.iconst 0, 1, 0, 0, 0) := by decide +kernel
theorem qs_8 : xe_look (xc 261) 8 = some (.istore_n 3, 1, 0, 0, 0) := by decide +kernel
theorem qs_9 : xe_look (xc 261) 9 = some (.iload_n 3, 1, 0, 0, 0) := by decide +kernel
theorem qs_10 : xe_look (xc 261) 10 = some (.iload_n 1, 1, 0, 0, 0) := by decide +kernel
theorem qs_11 : xe_look (xc 261) 11 = some (.if_icmp .ge 48, 3, 0, 0, 0) := by decide +kernel
theorem qs_14 : xe_look (xc 261) 14 = some (.aload_n 0, 1, 0, 0, 0) := by decide +kernel
theorem qs_15 : xe_look (xc 261) 15 = some (.getfield 53, 3, 12, 16, 1134) := by decide +kernel
theorem qs_18 : xe_look (xc 261) 18 = some (.iload_n 3, 1, 0, 0, 0) := by decide +kernel
theorem qs_19 : xe_look (xc 261) 19 = some (.baload, 1, 0, 0, 0) := by decide +kernel
theorem qs_20 : xe_look (xc 261) 20 = some (.sipush 255, 3, 0, 0, 0) := by decide +kernel
theorem qs_23 : xe_look (xc 261) 23 = some (.iand, 1, 0, 0, 0) := by decide +kernel
theorem qs_24 : xe_look (xc 261) 24 = some (.istore 4, 2, 0, 0, 0) := by decide +kernel
theorem qs_26 : xe_look (xc 261) 26 = some (.aload_n 0, 1, 0, 0, 0) := by decide +kernel
theorem qs_27 : xe_look (xc 261) 27 = some (.iload 4, 2, 0, 0, 0) := by decide +kernel
theorem qs_29 : xe_look (xc 261) 29 = some (.invokevirtual 205, 3, 0, 205, 1130) := by decide +kernel
theorem qs_32 : xe_look (xc 261) 32 = some (.ifCond .eq 12, 3, 0, 0, 0) := by decide +kernel
theorem qs_35 : xe_look (xc 261) 35 = some (.iload_n 2, 1, 0, 0, 0) := by decide +kernel
theorem qs_36 : xe_look (xc 261) 36 = some (.iload 4, 2, 0, 0, 0) := by decide +kernel
theorem qs_38 : xe_look (xc 261) 38 = some (.invokestatic 187, 3, 0, 196, 1121) := by decide +kernel
theorem qs_41 : xe_look (xc 261) 41 = some (.ifCond .eq 5, 3, 0, 0, 0) := by decide +kernel
theorem qs_44 : xe_look (xc 261) 44 = some (.iconst 0, 1, 0, 0, 0) := by decide +kernel
theorem qs_45 : xe_look (xc 261) 45 = some (.ireturn, 1, 0, 0, 0) := by decide +kernel
theorem qs_46 : xe_look (xc 261) 46 = some (.iload_n 2, 1, 0, 0, 0) := by decide +kernel
theorem qs_47 : xe_look (xc 261) 47 = some (.iconst 1, 1, 0, 0, 0) := by decide +kernel
theorem qs_48 : xe_look (xc 261) 48 = some (.iload 4, 2, 0, 0, 0) := by decide +kernel
theorem qs_50 : xe_look (xc 261) 50 = some (.ishl, 1, 0, 0, 0) := by decide +kernel
theorem qs_51 : xe_look (xc 261) 51 = some (.ior, 1, 0, 0, 0) := by decide +kernel
theorem qs_52 : xe_look (xc 261) 52 = some (.istore_n 2, 1, 0, 0, 0) := by decide +kernel
theorem qs_53 : xe_look (xc 261) 53 = some (.iinc 3 1, 3, 0, 0, 0) := by decide +kernel
theorem qs_56 : xe_look (xc 261) 56 = some (.goto (-47), 3, 0, 0, 0) := by decide +kernel
theorem qs_59 : xe_look (xc 261) 59 = some (.iconst 0, 1, 0, 0, 0) := by decide +kernel
theorem qs_60 : xe_look (xc 261) 60 = some (.istore_n 3, 1, 0, 0, 0) := by decide +kernel
theorem qs_61 : xe_look (xc 261) 61 = some (.iconst 0, 1, 0, 0, 0) := by decide +kernel
theorem qs_62 : xe_look (xc 261) 62 = some (.istore 4, 2, 0, 0, 0) := by decide +kernel
theorem qs_64 : xe_look (xc 261) 64 = some (.iload 4, 2, 0, 0, 0) := by decide +kernel
theorem qs_66 : xe_look (xc 261) 66 = some (.bipush 32, 2, 0, 0, 0) := by decide +kernel
theorem qs_68 : xe_look (xc 261) 68 = some (.if_icmp .ge 33, 3, 0, 0, 0) := by decide +kernel
theorem qs_71 : xe_look (xc 261) 71 = some (.iload_n 2, 1, 0, 0, 0) := by decide +kernel
theorem qs_72 : xe_look (xc 261) 72 = some (.iload 4, 2, 0, 0, 0) := by decide +kernel
theorem qs_74 : xe_look (xc 261) 74 = some (.invokestatic 187, 3, 0, 196, 1121) := by decide +kernel
theorem qs_77 : xe_look (xc 261) 77 = some (.ifCond .ne 6, 3, 0, 0, 0) := by decide +kernel
theorem qs_80 : xe_look (xc 261) 80 = some (.goto 15, 3, 0, 0, 0) := by decide +kernel
theorem qs_83 : xe_look (xc 261) 83 = some (.aload_n 0, 1, 0, 0, 0) := by decide +kernel
theorem qs_84 : xe_look (xc 261) 84 = some (.getfield 135, 3, 12, 68, 1206) := by decide +kernel
theorem qs_87 : xe_look (xc 261) 87 = some (.iload_n 3, 1, 0, 0, 0) := by decide +kernel
theorem qs_88 : xe_look (xc 261) 88 = some (.iload 4, 2, 0, 0, 0) := by decide +kernel
theorem qs_90 : xe_look (xc 261) 90 = some (.iastore, 1, 0, 0, 0) := by decide +kernel
theorem qs_91 : xe_look (xc 261) 91 = some (.iload_n 3, 1, 0, 0, 0) := by decide +kernel
theorem qs_92 : xe_look (xc 261) 92 = some (.iconst 1, 1, 0, 0, 0) := by decide +kernel
theorem qs_93 : xe_look (xc 261) 93 = some (.iadd, 1, 0, 0, 0) := by decide +kernel
theorem qs_94 : xe_look (xc 261) 94 = some (.istore_n 3, 1, 0, 0, 0) := by decide +kernel
theorem qs_95 : xe_look (xc 261) 95 = some (.iinc 4 1, 3, 0, 0, 0) := by decide +kernel
theorem qs_98 : xe_look (xc 261) 98 = some (.goto (-34), 3, 0, 0, 0) := by decide +kernel
theorem qs_101 : xe_look (xc 261) 101 = some (.iconst 1, 1, 0, 0, 0) := by decide +kernel
theorem qs_102 : xe_look (xc 261) 102 = some (.ireturn, 1, 0, 0, 0) := by decide +kernel
theorem el_196 : eL[196]? = some (0, 12) := by decide +kernel
theorem el_211 : eL[211]? = some (2, 260) := by decide +kernel
theorem el_238 : eL[238]? = some (1, 12) := by decide +kernel
theorem i0_0 : Int32.ofInt 0 = 0 := rfl
theorem i1_n : ¬ (Int32.ofInt 1 = 0) := by decide +kernel
set_option maxHeartbeats 2000000 in
theorem has_run {d : Nat} {h : pH} {b v : Int32} {P : Option pv × pH → Prop} (h1 : (b >>> (v &&& 31)) &&& Int32.ofInt 1 = Int32.ofInt 1 → P (some (.inl (Int32.ofInt 1)), h)) (h0 : ¬ (b >>> (v &&& 31)) &&& Int32.ofInt 1 = Int32.ofInt 1 → P (some (.inl (Int32.ofInt 0)), h)) : t_X d 196 0 [(0, .inl b), (1, .inl v)] [] h P := by
  by_cases hq : (b >>> (v &&& 31)) &&& Int32.ofInt 1 = Int32.ofInt 1
  · refine t_0 qh_0 rfl rfl ?_
    refine t_0 qh_1 rfl rfl ?_
    refine t_0 qh_2 rfl rfl ?_
    refine t_0 qh_3 rfl rfl ?_
    refine t_0 qh_4 rfl rfl ?_
    refine t_0 qh_5 rfl rfl ?_
    refine t_1 qh_6 rfl (pc_ne_f (pc := 6) (by decide) hq) ?_
    refine t_0 qh_9 rfl rfl ?_
    refine t_1 qh_10 rfl (pb_goto (pc := 10) (by decide)) ?_
    refine t_5 qh_14 rfl rfl ?_
    exact h1 hq
  · refine t_0 qh_0 rfl rfl ?_
    refine t_0 qh_1 rfl rfl ?_
    refine t_0 qh_2 rfl rfl ?_
    refine t_0 qh_3 rfl rfl ?_
    refine t_0 qh_4 rfl rfl ?_
    refine t_0 qh_5 rfl rfl ?_
    refine t_1 qh_6 rfl (pc_ne_t (pc := 6) (by decide) hq) ?_
    refine t_0 qh_13 rfl rfl ?_
    refine t_5 qh_14 rfl rfl ?_
    exact h0 hq
set_option maxHeartbeats 2000000 in
theorem chk_run {d : Nat} {h : pH} {v : Int32} {P : Option pv × pH → Prop} (hd : 1 ≤ d) (h1 : 0 ≤ v.toInt → v.toInt < 32 → P (some (.inl (Int32.ofInt 1)), h)) (h0 : P (some (.inl (Int32.ofInt 0)), h)) : t_X d 205 0 [(0, pvR 196), (1, .inl v)] [] h P := by
  have fin : t_X d 205 25 [(0, pvR 196), (1, .inl v)] [] h P := by
    refine t_0 qc_25 rfl rfl ?_
    refine t_5 qc_26 rfl rfl ?_
    exact h0
  by_cases ha : v < 0
  · refine t_0 qc_0 rfl rfl ?_
    refine t_1 qc_1 rfl (pb_lt_t (pc := 1) (by decide) ha) ?_
    exact fin
  · by_cases hb : v < (Int8.ofInt 32).toInt32
    · refine t_0 qc_0 rfl rfl ?_
      refine t_1 qc_1 rfl (pb_lt_f (pc := 1) (by decide) ha) ?_
      refine t_0 qc_4 rfl rfl ?_
      refine t_0 qc_5 rfl rfl ?_
      refine t_1 qc_7 rfl (pc_ge_f (pc := 7) (by decide) hb) ?_
      refine t_0 qc_10 rfl rfl ?_
      refine t_0 qc_11 rfl (pget el_196 (pFi rfl)) ?_
      refine t_0 qc_14 rfl rfl ?_
      refine t_3 qc_15 rfl (ar := ([.inl (h.1 196 0), .inl v], [])) (pcal_s ⟨Or.inl rfl, rfl, Nat.le_of_ble_eq_true rfl⟩) ⟨hd, Nat.le_of_ble_eq_true rfl, Nat.le_of_ble_eq_true rfl, rfl⟩ ?_
      refine has_run (fun _ => ?_) (fun _ => ?_)
      · show t_X d 205 18 [(0, pvR 196), (1, .inl v)] [.inl (Int32.ofInt 1)] h P
        refine t_1 qc_18 rfl (pb_eq_f (pc := 18) (by decide) i1_n) ?_
        refine t_0 qc_21 rfl rfl ?_
        refine t_1 qc_22 rfl (pb_goto (pc := 22) (by decide)) ?_
        refine t_5 qc_26 rfl rfl ?_
        refine h1 ?_ ?_
        · have : ¬ v.toInt < 0 := fun z => ha (i32_lt0.mpr z)
          omega
        · have h9 := Int32.lt_iff_toInt_lt.mp hb
          have e9 : ((Int8.ofInt 32).toInt32).toInt = 32 := by decide +kernel
          omega
      · show t_X d 205 18 [(0, pvR 196), (1, .inl v)] [.inl (Int32.ofInt 0)] h P
        refine t_1 qc_18 rfl (pb_eq_t (pc := 18) (by decide) i0_0) ?_
        exact fin
    · refine t_0 qc_0 rfl rfl ?_
      refine t_1 qc_1 rfl (pb_lt_f (pc := 1) (by decide) ha) ?_
      refine t_0 qc_4 rfl rfl ?_
      refine t_0 qc_5 rfl rfl ?_
      refine t_1 qc_7 rfl (pc_ge_t (pc := 7) (by decide) hb) ?_
      exact fin
set_option maxHeartbeats 4000000 in
theorem ts_1 {d : Nat} (hd : 3 ≤ d) {h : pH} {n : Int32} (hn : 0 ≤ n.toInt ∧ n.toInt ≤ 12) {P : Option pv × pH → Prop} (hr : pF h 12 196 16 = .inr (.inr (some 211))) (h0 : P (some (.inl (Int32.ofInt 0)), h)) (h1 : ∀ (lv : List (Nat × pv)) (bits : Int32), cnt (fun i => bits.toBitVec.getLsbD i) 32 ≤ n.toInt.toNat → px_lg lv 0 = some (.inr (.inr (some 196))) → px_lg lv 2 = some (.inl bits) → t_X d 261 59 lv [] h P) : ∀ (m j : Nat) (bits : Int32) (lv : List (Nat × pv)), j + m = n.toInt.toNat → px_lg lv 0 = some (.inr (.inr (some 196))) → px_lg lv 1 = some (.inl n) → px_lg lv 2 = some (.inl bits) → px_lg lv 3 = some (.inl (nI j)) → cnt (fun i => bits.toBitVec.getLsbD i) 32 ≤ j → t_X d 261 9 lv [] h P := by
  intro m
  induction m with
  | zero =>
    intro j bits lv hj l0 l1 l2 l3 hc
    have hlt : ¬ nI j < n := fun z => by
      have z := Int32.lt_iff_toInt_lt.mp z
      rw [nI_toInt (by omega)] at z
      omega
    refine t_0 qs_9 rfl (ld_i l3) ?_
    refine t_0 qs_10 rfl (ld_i l1) ?_
    refine t_1 qs_11 rfl (pc_ge_t (pc := 11) (by decide) hlt) ?_
    exact h1 lv bits (by omega) l0 l2
  | succ m ih =>
    intro j bits lv hj l0 l1 l2 l3 hc
    have hlt : nI j < n := Int32.lt_iff_toInt_lt.mpr (by rw [nI_toInt (by omega)]; omega)
    have hcl : ¬ (nI j < 0 ∨ 260 ≤ (nI j).toNatClampNeg) := e_clamp (by rw [nI_toInt (by omega)]; omega) (by rw [nI_toInt (by omega)]; omega)
    refine t_0 qs_9 rfl (ld_i l3) ?_
    refine t_0 qs_10 rfl (ld_i l1) ?_
    refine t_1 qs_11 rfl (pc_ge_f (pc := 11) (by decide) hlt) ?_
    show t_X d 261 14 lv [] h P
    refine t_0 qs_14 rfl (ld_a l0) ?_
    refine t_0 qs_15 rfl (pget el_196 hr) ?_
    refine t_0 qs_18 rfl (ld_i l3) ?_
    refine t_0 qs_19 rfl (pbald el_211 hcl) ?_
    refine t_0 qs_20 rfl rfl ?_
    refine t_0 qs_23 rfl rfl ?_
    refine t_2 qs_24 rfl (w := (px_s1 lv 4 (.inl ((h.2.2.2.1 211 (nI j).toNatClampNeg) &&& ((Int16.ofInt (255)).toInt32))), [])) rfl ?_
    replace l0 : px_lg (px_s1 lv 4 (.inl ((h.2.2.2.1 211 (nI j).toNatClampNeg) &&& ((Int16.ofInt (255)).toInt32)))) 0 = some (.inr (.inr (some 196))) := s1_ne (by decide) (fun _ => rfl) l0
    replace l1 : px_lg (px_s1 lv 4 (.inl ((h.2.2.2.1 211 (nI j).toNatClampNeg) &&& ((Int16.ofInt (255)).toInt32)))) 1 = some (.inl (n)) := s1_ne (by decide) (fun _ => rfl) l1
    replace l2 : px_lg (px_s1 lv 4 (.inl ((h.2.2.2.1 211 (nI j).toNatClampNeg) &&& ((Int16.ofInt (255)).toInt32)))) 2 = some (.inl (bits)) := s1_ne (by decide) (fun _ => rfl) l2
    replace l3 : px_lg (px_s1 lv 4 (.inl ((h.2.2.2.1 211 (nI j).toNatClampNeg) &&& ((Int16.ofInt (255)).toInt32)))) 3 = some (.inl (nI j)) := s1_ne (by decide) (fun _ => rfl) l3
    have l4 : px_lg (px_s1 lv 4 (.inl ((h.2.2.2.1 211 (nI j).toNatClampNeg) &&& ((Int16.ofInt (255)).toInt32)))) 4 = some (.inl ((h.2.2.2.1 211 (nI j).toNatClampNeg) &&& ((Int16.ofInt (255)).toInt32))) := s1_eq
    generalize px_s1 lv 4 (.inl ((h.2.2.2.1 211 (nI j).toNatClampNeg) &&& ((Int16.ofInt (255)).toInt32))) = lv1 at l0 l1 l2 l3 l4 ⊢
    show t_X d 261 26 lv1 [] h P
    generalize h.2.2.2.1 211 (nI j).toNatClampNeg &&& (Int16.ofInt 255).toInt32 = v at l4
    refine t_0 qs_26 rfl (ld_a l0) ?_
    refine t_0 qs_27 rfl (ld_i l4) ?_
    refine t_3 qs_29 rfl (ar := ([pvR 196, .inl v], [])) (pcal_v1 rfl rfl el_196) ⟨by omega, Nat.le_of_ble_eq_true rfl, Nat.le_of_ble_eq_true rfl, rfl⟩ ?_
    refine chk_run (by omega) (fun v0 v1 => ?_) ?_
    · show t_X d 261 32 lv1 [.inl (Int32.ofInt 1)] h P
      refine t_1 qs_32 rfl (pb_eq_f (pc := 32) (by decide) i1_n) ?_
      refine t_0 qs_35 rfl (ld_i l2) ?_
      refine t_0 qs_36 rfl (ld_i l4) ?_
      refine t_3 qs_38 rfl (ar := ([.inl bits, .inl v], [])) (pcal_s ⟨Or.inl rfl, rfl, Nat.le_of_ble_eq_true rfl⟩) ⟨by omega, Nat.le_of_ble_eq_true rfl, Nat.le_of_ble_eq_true rfl, rfl⟩ ?_
      refine has_run (fun _ => ?_) (fun _ => ?_)
      · show t_X d 261 41 lv1 [.inl (Int32.ofInt 1)] h P
        refine t_1 qs_41 rfl (pb_eq_f (pc := 41) (by decide) i1_n) ?_
        refine t_0 qs_44 rfl rfl ?_
        refine t_5 qs_45 rfl rfl ?_
        exact h0
      · show t_X d 261 41 lv1 [.inl (Int32.ofInt 0)] h P
        refine t_1 qs_41 rfl (pb_eq_t (pc := 41) (by decide) i0_0) ?_
        refine t_0 qs_46 rfl (ld_i l2) ?_
        refine t_0 qs_47 rfl rfl ?_
        refine t_0 qs_48 rfl (ld_i l4) ?_
        refine t_0 qs_50 rfl rfl ?_
        refine t_0 qs_51 rfl rfl ?_
        refine t_2 qs_52 rfl (w := (px_s1 lv1 2 (.inl ((bits) ||| ((Int32.ofInt (1)) <<< ((v) &&& 31)))), [])) rfl ?_
        replace l0 : px_lg (px_s1 lv1 2 (.inl ((bits) ||| ((Int32.ofInt (1)) <<< ((v) &&& 31))))) 0 = some (.inr (.inr (some 196))) := s1_ne (by decide) (fun _ => rfl) l0
        replace l1 : px_lg (px_s1 lv1 2 (.inl ((bits) ||| ((Int32.ofInt (1)) <<< ((v) &&& 31))))) 1 = some (.inl (n)) := s1_ne (by decide) (fun _ => rfl) l1
        replace l3 : px_lg (px_s1 lv1 2 (.inl ((bits) ||| ((Int32.ofInt (1)) <<< ((v) &&& 31))))) 3 = some (.inl (nI j)) := s1_ne (by decide) (fun _ => rfl) l3
        replace l4 : px_lg (px_s1 lv1 2 (.inl ((bits) ||| ((Int32.ofInt (1)) <<< ((v) &&& 31))))) 4 = some (.inl (v)) := s1_ne (by decide) (fun _ => rfl) l4
        have l2 : px_lg (px_s1 lv1 2 (.inl ((bits) ||| ((Int32.ofInt (1)) <<< ((v) &&& 31))))) 2 = some (.inl ((bits) ||| ((Int32.ofInt (1)) <<< ((v) &&& 31)))) := s1_eq
        generalize px_s1 lv1 2 (.inl ((bits) ||| ((Int32.ofInt (1)) <<< ((v) &&& 31)))) = lv2 at l0 l1 l3 l4 l2 ⊢
        show t_X d 261 53 lv2 [] h P
        refine t_2 qs_53 rfl (w := (px_s1 lv2 3 (.inl ((nI j) + Int32.ofInt (1))), [])) (pinc l3 (by decide)) ?_
        replace l0 : px_lg (px_s1 lv2 3 (.inl ((nI j) + Int32.ofInt (1)))) 0 = some (.inr (.inr (some 196))) := s1_ne (by decide) (fun _ => rfl) l0
        replace l1 : px_lg (px_s1 lv2 3 (.inl ((nI j) + Int32.ofInt (1)))) 1 = some (.inl (n)) := s1_ne (by decide) (fun _ => rfl) l1
        replace l4 : px_lg (px_s1 lv2 3 (.inl ((nI j) + Int32.ofInt (1)))) 4 = some (.inl (v)) := s1_ne (by decide) (fun _ => rfl) l4
        replace l2 : px_lg (px_s1 lv2 3 (.inl ((nI j) + Int32.ofInt (1)))) 2 = some (.inl ((bits) ||| ((Int32.ofInt (1)) <<< ((v) &&& 31)))) := s1_ne (by decide) (fun _ => rfl) l2
        have l3 : px_lg (px_s1 lv2 3 (.inl ((nI j) + Int32.ofInt (1)))) 3 = some (.inl ((nI j) + Int32.ofInt (1))) := s1_eq
        generalize px_s1 lv2 3 (.inl ((nI j) + Int32.ofInt (1))) = lv3 at l0 l1 l4 l2 l3 ⊢
        show t_X d 261 56 lv3 [] h P
        refine t_1 qs_56 rfl (pb_goto (pc := 56) (by decide)) ?_
        show t_X d 261 9 lv3 [] h P
        rw [j_inc (by omega)] at l3
        refine ih (j + 1) _ _ (by omega) l0 l1 l2 l3 ?_
        obtain ⟨k, hk, rfl⟩ : ∃ k : Nat, k < 32 ∧ v = nI k := ⟨v.toInt.toNat, by omega, Int32.toInt_inj.mp (by rw [nI_toInt (by omega)]; omega)⟩
        have := cnt_set (f := fun i => bits.toBitVec.getLsbD i) (g := fun i => (bits ||| Int32.ofInt 1 <<< (nI k &&& 31)).toBitVec.getLsbD i) (v := k) (n := 32) (fun i hi => bt_set hk hi)
        rw [if_pos hk] at this
        have e : cnt (fun i => (bits ||| Int32.ofInt 1 <<< (nI k &&& 31)).toBitVec.getLsbD i) 32 ≤ j + 1 := by omega
        exact e
    · show t_X d 261 32 lv1 [.inl (Int32.ofInt 0)] h P
      refine t_1 qs_32 rfl (pb_eq_t (pc := 32) (by decide) i0_0) ?_
      refine t_0 qs_44 rfl rfl ?_
      refine t_5 qs_45 rfl rfl ?_
      exact h0
