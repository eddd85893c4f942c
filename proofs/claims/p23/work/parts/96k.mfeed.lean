/-! the tie: feed of the reference (printed by wip/e2/t4.py) -/
theorem qfm_0 : xe_look (xc 189) 0 = some (.aload_n 0, 1, 0, 0, 0) := by decide +kernel
theorem qfm_1 : xe_look (xc 189) 1 = some (.getfield 194, 3, 12, 17, 1132) := by decide +kernel
theorem qfm_4 : xe_look (xc 189) 4 = some (.bipush 20, 2, 0, 0, 0) := by decide +kernel
theorem qfm_6 : xe_look (xc 189) 6 = some (.iadd, 1, 0, 0, 0) := by decide +kernel
theorem qfm_7 : xe_look (xc 189) 7 = some (.sipush 260, 3, 0, 0, 0) := by decide +kernel
theorem qfm_10 : xe_look (xc 189) 10 = some (.if_icmp .le 5, 3, 0, 0, 0) := by decide +kernel
theorem qfm_13 : xe_look (xc 189) 13 = some (.iconst (-1), 1, 0, 0, 0) := by decide +kernel
theorem qfm_14 : xe_look (xc 189) 14 = some (.ireturn, 1, 0, 0, 0) := by decide +kernel
theorem qfm_15 : xe_look (xc 189) 15 = some (.aload_n 0, 1, 0, 0, 0) := by decide +kernel
theorem qfm_16 : xe_look (xc 189) 16 = some (.iload_n 1, 1, 0, 0, 0) := by decide +kernel
theorem qfm_17 : xe_look (xc 189) 17 = some (.invokevirtual 197, 3, 0, 269, 1174) := by decide +kernel
theorem qfm_20 : xe_look (xc 189) 20 = some (.aload_n 0, 1, 0, 0, 0) := by decide +kernel
theorem qfm_21 : xe_look (xc 189) 21 = some (.iload_n 2, 1, 0, 0, 0) := by decide +kernel
theorem qfm_22 : xe_look (xc 189) 22 = some (.invokevirtual 197, 3, 0, 269, 1174) := by decide +kernel
theorem qfm_25 : xe_look (xc 189) 25 = some (.aload_n 0, 1, 0, 0, 0) := by decide +kernel
theorem qfm_26 : xe_look (xc 189) 26 = some (.iload_n 3, 1, 0, 0, 0) := by decide +kernel
theorem qfm_27 : xe_look (xc 189) 27 = some (.invokevirtual 197, 3, 0, 269, 1174) := by decide +kernel
theorem qfm_30 : xe_look (xc 189) 30 = some (.aload_n 0, 1, 0, 0, 0) := by decide +kernel
theorem qfm_31 : xe_look (xc 189) 31 = some (.iload 4, 2, 0, 0, 0) := by decide +kernel
theorem qfm_33 : xe_look (xc 189) 33 = some (.invokevirtual 197, 3, 0, 269, 1174) := by decide +kernel
theorem qfm_36 : xe_look (xc 189) 36 = some (.aload_n 0, 1, 0, 0, 0) := by decide +kernel
theorem qfm_37 : xe_look (xc 189) 37 = some (.iload 5, 2, 0, 0, 0) := by decide +kernel
theorem qfm_39 : xe_look (xc 189) 39 = some (.invokevirtual 197, 3, 0, 269, 1174) := by decide +kernel
theorem qfm_42 : xe_look (xc 189) 42 = some (.aload_n 0, 1, 0, 0, 0) := by decide +kernel
theorem qfm_43 : xe_look (xc 189) 43 = some (.getfield 194, 3, 12, 17, 1132) := by decide +kernel
theorem qfm_46 : xe_look (xc 189) 46 = some (.ireturn, 1, 0, 0, 0) := by decide +kernel
theorem qyp_0 : xe_look (xc 269) 0 = some (.iconst 3, 1, 0, 0, 0) := by decide +kernel
theorem qyp_1 : xe_look (xc 269) 1 = some (.istore_n 2, 1, 0, 0, 0) := by decide +kernel
theorem qyp_2 : xe_look (xc 269) 2 = some (.iload_n 2, 1, 0, 0, 0) := by decide +kernel
theorem qyp_3 : xe_look (xc 269) 3 = some (.ifCond .lt 35, 3, 0, 0, 0) := by decide +kernel
theorem qyp_6 : xe_look (xc 269) 6 = some (.aload_n 0, 1, 0, 0, 0) := by decide +kernel
theorem qyp_7 : xe_look (xc 269) 7 = some (.getfield 53, 3, 12, 16, 1134) := by decide +kernel
theorem qyp_10 : xe_look (xc 269) 10 = some (.aload_n 0, 1, 0, 0, 0) := by decide +kernel
theorem qyp_11 : xe_look (xc 269) 11 = some (.getfield 194, 3, 12, 17, 1132) := by decide +kernel
theorem qyp_14 : xe_look (xc 269) 14 = some (.iload_n 1, 1, 0, 0, 0) := by decide +kernel
theorem qyp_15 : xe_look (xc 269) 15 = some (.bipush 8, 2, 0, 0, 0) := by decide +kernel
theorem qyp_17 : xe_look (xc 269) 17 = some (.iload_n 2, 1, 0, 0, 0) := by decide +kernel
theorem qyp_18 : xe_look (xc 269) 18 = some (.imul, 1, 0, 0, 0) := by decide +kernel
theorem qyp_19 : xe_look (xc 269) 19 = some (.ishr, 1, 0, 0, 0) := by decide +kernel
theorem qyp_20 : xe_look (xc 269) 20 = some (.i2b, 1, 0, 0, 0) := by decide +kernel
theorem qyp_21 : xe_look (xc 269) 21 = some (.bastore, 1, 0, 0, 0) := by decide +kernel
theorem qyp_22 : xe_look (xc 269) 22 = some (.aload_n 0, 1, 0, 0, 0) := by decide +kernel
theorem qyp_23 : xe_look (xc 269) 23 = some (.aload_n 0, 1, 0, 0, 0) := by decide +kernel
theorem qyp_24 : xe_look (xc 269) 24 = some (.getfield 194, 3, 12, 17, 1132) := by decide +kernel
theorem qyp_27 : xe_look (xc 269) 27 = some (.iconst 1, 1, 0, 0, 0) := by decide +kernel
theorem qyp_28 : xe_look (xc 269) 28 = some (.iadd, 1, 0, 0, 0) := by decide +kernel
theorem qyp_29 : xe_look (xc 269) 29 = some (.putfield 194, 3, 12, 17, 1132) := by decide +kernel
theorem qyp_32 : xe_look (xc 269) 32 = some (.iinc 2 (-1), 3, 0, 0, 0) := by decide +kernel
theorem qyp_35 : xe_look (xc 269) 35 = some (.goto (-33), 3, 0, 0, 0) := by decide +kernel
theorem qyp_38 : xe_look (xc 269) 38 = some (.return_, 1, 0, 0, 0) := by decide +kernel
set_option maxHeartbeats 4000000 in
theorem yp_run {d W : Nat} (w_a211 : W.testBit (cn 211) = true) (w_17 : W.testBit (cn 196 + 17) = true) {h0 g : pH} (hJ : J_ W h0 g) {v : Int32} (he : 0 ≤ fF g 17 ∧ fF g 17 + 4 ≤ 260) {P : Option pv × pH → Prop} (hP : ∀ g1 : pH, J_ W h0 g1 → fF g1 17 = fF g 17 + 4 → fA g1 211 = apR v (fF g 17).toNat (fA g 211) → P (none, g1)) {lv : List (Nat × pv)} (l0 : px_lg lv 0 = some (pvR 196)) (l1 : px_lg lv 1 = some (.inl v)) : t_X d 269 0 lv [] g P := by
  refine t_0 qyp_0 rfl rfl ?_
  refine t_2 qyp_1 rfl (w := (px_s1 lv 2 (oI (3)), [])) rfl ?_
  replace l0 : px_lg (px_s1 lv 2 (oI (3))) 0 = some (pvR 196) := s1_ne (by decide) (fun _ => rfl) l0
  replace l1 : px_lg (px_s1 lv 2 (oI (3))) 1 = some (.inl (v)) := s1_ne (by decide) (fun _ => rfl) l1
  have l2 : px_lg (px_s1 lv 2 (oI (3))) 2 = some (oI (3)) := s1_eq
  generalize px_s1 lv 2 (oI (3)) = lv1 at l0 l1 l2 ⊢
  show t_X d 269 2 lv1 [] g P
  refine t_0 qyp_2 rfl (ld_i l2) ?_
  refine tz_lt qyp_3 (by decide) ⟨by omega, by omega⟩ (fun c2 => absurd c2 (by omega)) (fun c2 => ?_)
  show t_X d 269 6 lv1 [] g P
  refine t_0 qyp_6 rfl (ld_a l0) ?_
  refine t_0 qyp_7 rfl (ar_16 hJ.1) ?_
  refine t_0 qyp_10 rfl (ld_a l0) ?_
  have r3 := gb_f hJ.1 (y := 17) rfl rfl gf_17
  refine t_0 qyp_11 rfl (pq_gf (y := 17) rfl) ?_
  refine t_0 qyp_14 rfl (ld_i l1) ?_
  refine t_0 qyp_15 rfl (pq_b (by decide)) ?_
  refine t_0 qyp_17 rfl (ld_i l2) ?_
  refine t_0 qyp_18 rfl pq_mul ?_
  refine t_0 qyp_19 rfl rfl ?_
  refine t_0 qyp_20 rfl rfl ?_
  refine tw_y qyp_21 hJ el_211 rfl w_a211 gA_211 ⟨by omega, by omega⟩ (fun g4 hJ4 e4 => ?_)
  have u4 : fA g4 211 = updI (fA g 211) (fF g 17).toNat ((((v) >>> ((Int32.ofInt (8 * 3)) &&& 31)).toInt8.toInt32).toInt8.toInt32).toInt := by rw [e4]; exact fA_pu
  have v4 : fF g4 17 = fF g 17 := by rw [e4]; rfl
  show t_X d 269 22 lv1 [] g4 P
  refine t_0 qyp_22 rfl (ld_a l0) ?_
  refine t_0 qyp_23 rfl (ld_a l0) ?_
  have r5 := gb_f hJ4.1 (y := 17) rfl rfl gf_17
  refine t_0 qyp_24 rfl (pq_gf (y := 17) rfl) ?_
  refine t_0 qyp_27 rfl rfl ?_
  refine t_0 qyp_28 rfl pq_add ?_
  refine tw_f qyp_29 rfl hJ4 w_17 gf_17 (by decide) ⟨by omega, by omega⟩ (fun g6 hJ6 v6 f6 a6 => ?_)
  replace a6 := fA_2 a6
  have u6 : fA g6 211 = fA g4 211 := congrFun a6 211
  show t_X d 269 32 lv1 [] g6 P
  refine t_2 qyp_32 rfl (w := (px_s1 lv1 2 (oI (2)), [])) (pq_inc l2 (by decide)) ?_
  replace l0 : px_lg (px_s1 lv1 2 (oI (2))) 0 = some (pvR 196) := s1_ne (by decide) (fun _ => rfl) l0
  replace l1 : px_lg (px_s1 lv1 2 (oI (2))) 1 = some (.inl (v)) := s1_ne (by decide) (fun _ => rfl) l1
  have l2 : px_lg (px_s1 lv1 2 (oI (2))) 2 = some (oI (2)) := s1_eq
  generalize px_s1 lv1 2 (oI (2)) = lv7 at l0 l1 l2 ⊢
  show t_X d 269 35 lv7 [] g6 P
  refine t_1 qyp_35 rfl (pb_goto (pc := 35) (by decide)) ?_
  show t_X d 269 2 lv7 [] g6 P
  refine t_0 qyp_2 rfl (ld_i l2) ?_
  refine tz_lt qyp_3 (by decide) ⟨by omega, by omega⟩ (fun c8 => absurd c8 (by omega)) (fun c8 => ?_)
  show t_X d 269 6 lv7 [] g6 P
  refine t_0 qyp_6 rfl (ld_a l0) ?_
  refine t_0 qyp_7 rfl (ar_16 hJ6.1) ?_
  refine t_0 qyp_10 rfl (ld_a l0) ?_
  have r9 := gb_f hJ6.1 (y := 17) rfl rfl gf_17
  refine t_0 qyp_11 rfl (pq_gf (y := 17) rfl) ?_
  refine t_0 qyp_14 rfl (ld_i l1) ?_
  refine t_0 qyp_15 rfl (pq_b (by decide)) ?_
  refine t_0 qyp_17 rfl (ld_i l2) ?_
  refine t_0 qyp_18 rfl pq_mul ?_
  refine t_0 qyp_19 rfl rfl ?_
  refine t_0 qyp_20 rfl rfl ?_
  refine tw_y qyp_21 hJ6 el_211 rfl w_a211 gA_211 ⟨by omega, by omega⟩ (fun g10 hJ10 e10 => ?_)
  have u10 : fA g10 211 = updI (fA g6 211) (fF g6 17).toNat ((((v) >>> ((Int32.ofInt (8 * 2)) &&& 31)).toInt8.toInt32).toInt8.toInt32).toInt := by rw [e10]; exact fA_pu
  have v10 : fF g10 17 = fF g6 17 := by rw [e10]; rfl
  show t_X d 269 22 lv7 [] g10 P
  refine t_0 qyp_22 rfl (ld_a l0) ?_
  refine t_0 qyp_23 rfl (ld_a l0) ?_
  have r11 := gb_f hJ10.1 (y := 17) rfl rfl gf_17
  refine t_0 qyp_24 rfl (pq_gf (y := 17) rfl) ?_
  refine t_0 qyp_27 rfl rfl ?_
  refine t_0 qyp_28 rfl pq_add ?_
  refine tw_f qyp_29 rfl hJ10 w_17 gf_17 (by decide) ⟨by omega, by omega⟩ (fun g12 hJ12 v12 f12 a12 => ?_)
  replace a12 := fA_2 a12
  have u12 : fA g12 211 = fA g10 211 := congrFun a12 211
  show t_X d 269 32 lv7 [] g12 P
  refine t_2 qyp_32 rfl (w := (px_s1 lv7 2 (oI (1)), [])) (pq_inc l2 (by decide)) ?_
  replace l0 : px_lg (px_s1 lv7 2 (oI (1))) 0 = some (pvR 196) := s1_ne (by decide) (fun _ => rfl) l0
  replace l1 : px_lg (px_s1 lv7 2 (oI (1))) 1 = some (.inl (v)) := s1_ne (by decide) (fun _ => rfl) l1
  have l2 : px_lg (px_s1 lv7 2 (oI (1))) 2 = some (oI (1)) := s1_eq
  generalize px_s1 lv7 2 (oI (1)) = lv13 at l0 l1 l2 ⊢
  show t_X d 269 35 lv13 [] g12 P
  refine t_1 qyp_35 rfl (pb_goto (pc := 35) (by decide)) ?_
  show t_X d 269 2 lv13 [] g12 P
  refine t_0 qyp_2 rfl (ld_i l2) ?_
  refine tz_lt qyp_3 (by decide) ⟨by omega, by omega⟩ (fun c14 => absurd c14 (by omega)) (fun c14 => ?_)
  show t_X d 269 6 lv13 [] g12 P
  refine t_0 qyp_6 rfl (ld_a l0) ?_
  refine t_0 qyp_7 rfl (ar_16 hJ12.1) ?_
  refine t_0 qyp_10 rfl (ld_a l0) ?_
  have r15 := gb_f hJ12.1 (y := 17) rfl rfl gf_17
  refine t_0 qyp_11 rfl (pq_gf (y := 17) rfl) ?_
  refine t_0 qyp_14 rfl (ld_i l1) ?_
  refine t_0 qyp_15 rfl (pq_b (by decide)) ?_
  refine t_0 qyp_17 rfl (ld_i l2) ?_
  refine t_0 qyp_18 rfl pq_mul ?_
  refine t_0 qyp_19 rfl rfl ?_
  refine t_0 qyp_20 rfl rfl ?_
  refine tw_y qyp_21 hJ12 el_211 rfl w_a211 gA_211 ⟨by omega, by omega⟩ (fun g16 hJ16 e16 => ?_)
  have u16 : fA g16 211 = updI (fA g12 211) (fF g12 17).toNat ((((v) >>> ((Int32.ofInt (8 * 1)) &&& 31)).toInt8.toInt32).toInt8.toInt32).toInt := by rw [e16]; exact fA_pu
  have v16 : fF g16 17 = fF g12 17 := by rw [e16]; rfl
  show t_X d 269 22 lv13 [] g16 P
  refine t_0 qyp_22 rfl (ld_a l0) ?_
  refine t_0 qyp_23 rfl (ld_a l0) ?_
  have r17 := gb_f hJ16.1 (y := 17) rfl rfl gf_17
  refine t_0 qyp_24 rfl (pq_gf (y := 17) rfl) ?_
  refine t_0 qyp_27 rfl rfl ?_
  refine t_0 qyp_28 rfl pq_add ?_
  refine tw_f qyp_29 rfl hJ16 w_17 gf_17 (by decide) ⟨by omega, by omega⟩ (fun g18 hJ18 v18 f18 a18 => ?_)
  replace a18 := fA_2 a18
  have u18 : fA g18 211 = fA g16 211 := congrFun a18 211
  show t_X d 269 32 lv13 [] g18 P
  refine t_2 qyp_32 rfl (w := (px_s1 lv13 2 (oI (0)), [])) (pq_inc l2 (by decide)) ?_
  replace l0 : px_lg (px_s1 lv13 2 (oI (0))) 0 = some (pvR 196) := s1_ne (by decide) (fun _ => rfl) l0
  replace l1 : px_lg (px_s1 lv13 2 (oI (0))) 1 = some (.inl (v)) := s1_ne (by decide) (fun _ => rfl) l1
  have l2 : px_lg (px_s1 lv13 2 (oI (0))) 2 = some (oI (0)) := s1_eq
  generalize px_s1 lv13 2 (oI (0)) = lv19 at l0 l1 l2 ⊢
  show t_X d 269 35 lv19 [] g18 P
  refine t_1 qyp_35 rfl (pb_goto (pc := 35) (by decide)) ?_
  show t_X d 269 2 lv19 [] g18 P
  refine t_0 qyp_2 rfl (ld_i l2) ?_
  refine tz_lt qyp_3 (by decide) ⟨by omega, by omega⟩ (fun c20 => absurd c20 (by omega)) (fun c20 => ?_)
  show t_X d 269 6 lv19 [] g18 P
  refine t_0 qyp_6 rfl (ld_a l0) ?_
  refine t_0 qyp_7 rfl (ar_16 hJ18.1) ?_
  refine t_0 qyp_10 rfl (ld_a l0) ?_
  have r21 := gb_f hJ18.1 (y := 17) rfl rfl gf_17
  refine t_0 qyp_11 rfl (pq_gf (y := 17) rfl) ?_
  refine t_0 qyp_14 rfl (ld_i l1) ?_
  refine t_0 qyp_15 rfl (pq_b (by decide)) ?_
  refine t_0 qyp_17 rfl (ld_i l2) ?_
  refine t_0 qyp_18 rfl pq_mul ?_
  refine t_0 qyp_19 rfl rfl ?_
  refine t_0 qyp_20 rfl rfl ?_
  refine tw_y qyp_21 hJ18 el_211 rfl w_a211 gA_211 ⟨by omega, by omega⟩ (fun g22 hJ22 e22 => ?_)
  have u22 : fA g22 211 = updI (fA g18 211) (fF g18 17).toNat ((((v) >>> ((Int32.ofInt (8 * 0)) &&& 31)).toInt8.toInt32).toInt8.toInt32).toInt := by rw [e22]; exact fA_pu
  have v22 : fF g22 17 = fF g18 17 := by rw [e22]; rfl
  show t_X d 269 22 lv19 [] g22 P
  refine t_0 qyp_22 rfl (ld_a l0) ?_
  refine t_0 qyp_23 rfl (ld_a l0) ?_
  have r23 := gb_f hJ22.1 (y := 17) rfl rfl gf_17
  refine t_0 qyp_24 rfl (pq_gf (y := 17) rfl) ?_
  refine t_0 qyp_27 rfl rfl ?_
  refine t_0 qyp_28 rfl pq_add ?_
  refine tw_f qyp_29 rfl hJ22 w_17 gf_17 (by decide) ⟨by omega, by omega⟩ (fun g24 hJ24 v24 f24 a24 => ?_)
  replace a24 := fA_2 a24
  have u24 : fA g24 211 = fA g22 211 := congrFun a24 211
  show t_X d 269 32 lv19 [] g24 P
  refine t_2 qyp_32 rfl (w := (px_s1 lv19 2 (oI ((-1))), [])) (pq_inc l2 (by decide)) ?_
  replace l0 : px_lg (px_s1 lv19 2 (oI ((-1)))) 0 = some (pvR 196) := s1_ne (by decide) (fun _ => rfl) l0
  replace l1 : px_lg (px_s1 lv19 2 (oI ((-1)))) 1 = some (.inl (v)) := s1_ne (by decide) (fun _ => rfl) l1
  have l2 : px_lg (px_s1 lv19 2 (oI ((-1)))) 2 = some (oI ((-1))) := s1_eq
  generalize px_s1 lv19 2 (oI ((-1))) = lv25 at l0 l1 l2 ⊢
  show t_X d 269 35 lv25 [] g24 P
  refine t_1 qyp_35 rfl (pb_goto (pc := 35) (by decide)) ?_
  show t_X d 269 2 lv25 [] g24 P
  refine t_0 qyp_2 rfl (ld_i l2) ?_
  refine tz_lt qyp_3 (by decide) ⟨by omega, by omega⟩ (fun c26 => ?_) (fun c26 => absurd c26 (by omega))
  show t_X d 269 38 lv25 [] g24 P
  refine t_5 qyp_38 rfl rfl ?_
  refine hP _ hJ24 (by omega) ?_
  rw [u24, u22, u18, u16, u12, u10, u6, u4]
  rw [show (fF g6 17).toNat = (fF g 17).toNat + 1 by omega]
  rw [show (fF g12 17).toNat = (fF g 17).toNat + 2 by omega]
  rw [show (fF g18 17).toNat = (fF g 17).toNat + 3 by omega]
  rfl
set_option maxHeartbeats 4000000 in
theorem fm_run {d W : Nat} (hd : 1 ≤ d) (w_a211 : W.testBit (cn 211) = true) (w_17 : W.testBit (cn 196 + 17) = true) {h0 g : pH} (hJ : J_ W h0 g) {a1 a2 a3 a4 a5 : Int32} {P : Option pv × pH → Prop} (hP0 : 260 < fF g 17 + 20 → P (some (oI (-1)), g)) (hP1 : ∀ g1 : pH, J_ W h0 g1 → fF g 17 + 20 ≤ 260 → fF g1 17 = fF g 17 + 20 → fA g1 211 = apR a5 ((fF g 17).toNat + 16) (apR a4 ((fF g 17).toNat + 12) (apR a3 ((fF g 17).toNat + 8) (apR a2 ((fF g 17).toNat + 4) (apR a1 (fF g 17).toNat (fA g 211))))) → P (some (oI (fF g 17 + 20)), g1)) {lv : List (Nat × pv)} (l0 : px_lg lv 0 = some (pvR 196)) (l1 : px_lg lv 1 = some (.inl a1)) (l2 : px_lg lv 2 = some (.inl a2)) (l3 : px_lg lv 3 = some (.inl a3)) (l4 : px_lg lv 4 = some (.inl a4)) (l5 : px_lg lv 5 = some (.inl a5)) : t_X d 189 0 lv [] g P := by
  refine t_0 qfm_0 rfl (ld_a l0) ?_
  have r1 := gb_f hJ.1 (y := 17) rfl rfl gf_17
  refine t_0 qfm_1 rfl (pq_gf (y := 17) rfl) ?_
  refine t_0 qfm_4 rfl (pq_b (by decide)) ?_
  refine t_0 qfm_6 rfl pq_add ?_
  refine t_0 qfm_7 rfl (pq_s (by decide)) ?_
  refine tb_le qfm_10 (by decide) ⟨by omega, by omega⟩ ⟨by omega, by omega⟩ (fun c2 => ?_) (fun c2 => ?_)
  · show t_X d 189 15 lv [] g P
    refine t_0 qfm_15 rfl (ld_a l0) ?_
    refine t_0 qfm_16 rfl (ld_i l1) ?_
    refine t_3 qfm_17 rfl (ar := ([pvR 196, .inl (a1)], [])) (pcal_v1 rfl rfl el_196) ⟨by omega, Nat.le_of_ble_eq_true rfl, Nat.le_of_ble_eq_true rfl, rfl⟩ ?_
    refine yp_run w_a211 w_17 hJ (by omega) (fun g3 hJ3 v3 u3 => ?_) rfl rfl
    show t_X d 189 20 lv [] g3 P
    refine t_0 qfm_20 rfl (ld_a l0) ?_
    refine t_0 qfm_21 rfl (ld_i l2) ?_
    refine t_3 qfm_22 rfl (ar := ([pvR 196, .inl (a2)], [])) (pcal_v1 rfl rfl el_196) ⟨by omega, Nat.le_of_ble_eq_true rfl, Nat.le_of_ble_eq_true rfl, rfl⟩ ?_
    refine yp_run w_a211 w_17 hJ3 (by omega) (fun g4 hJ4 v4 u4 => ?_) rfl rfl
    show t_X d 189 25 lv [] g4 P
    refine t_0 qfm_25 rfl (ld_a l0) ?_
    refine t_0 qfm_26 rfl (ld_i l3) ?_
    refine t_3 qfm_27 rfl (ar := ([pvR 196, .inl (a3)], [])) (pcal_v1 rfl rfl el_196) ⟨by omega, Nat.le_of_ble_eq_true rfl, Nat.le_of_ble_eq_true rfl, rfl⟩ ?_
    refine yp_run w_a211 w_17 hJ4 (by omega) (fun g5 hJ5 v5 u5 => ?_) rfl rfl
    show t_X d 189 30 lv [] g5 P
    refine t_0 qfm_30 rfl (ld_a l0) ?_
    refine t_0 qfm_31 rfl (ld_i l4) ?_
    refine t_3 qfm_33 rfl (ar := ([pvR 196, .inl (a4)], [])) (pcal_v1 rfl rfl el_196) ⟨by omega, Nat.le_of_ble_eq_true rfl, Nat.le_of_ble_eq_true rfl, rfl⟩ ?_
    refine yp_run w_a211 w_17 hJ5 (by omega) (fun g6 hJ6 v6 u6 => ?_) rfl rfl
    show t_X d 189 36 lv [] g6 P
    refine t_0 qfm_36 rfl (ld_a l0) ?_
    refine t_0 qfm_37 rfl (ld_i l5) ?_
    refine t_3 qfm_39 rfl (ar := ([pvR 196, .inl (a5)], [])) (pcal_v1 rfl rfl el_196) ⟨by omega, Nat.le_of_ble_eq_true rfl, Nat.le_of_ble_eq_true rfl, rfl⟩ ?_
    refine yp_run w_a211 w_17 hJ6 (by omega) (fun g7 hJ7 v7 u7 => ?_) rfl rfl
    show t_X d 189 42 lv [] g7 P
    refine t_0 qfm_42 rfl (ld_a l0) ?_
    have r8 := gb_f hJ7.1 (y := 17) rfl rfl gf_17
    refine t_0 qfm_43 rfl (pq_gf (y := 17) rfl) ?_
    refine t_5 qfm_46 rfl rfl ?_
    rw [show fF g7 17 = fF g 17 + 20 by omega]
    refine hP1 _ hJ7 (by omega) (by omega) ?_
    rw [u7, u6, u5, u4, u3]
    rw [show (fF g3 17).toNat = (fF g 17).toNat + 4 by omega]
    rw [show (fF g4 17).toNat = (fF g 17).toNat + 8 by omega]
    rw [show (fF g5 17).toNat = (fF g 17).toNat + 12 by omega]
    rw [show (fF g6 17).toNat = (fF g 17).toNat + 16 by omega]
  · show t_X d 189 13 lv [] g P
    refine t_0 qfm_13 rfl rfl ?_
    refine t_5 qfm_14 rfl rfl ?_
    exact hP0 (by omega)
