/-! the walk of the law -/
theorem xl_k0 : xe_look (xc 135) 0 = some (.new 7, 3, 11, 0, 748) := by decide +kernel
theorem xl_k3 : xe_look (xc 135) 3 = some (.dup, 1, 0, 0, 0) := by decide +kernel
theorem xl_k4 : xe_look (xc 135) 4 = some (.invokespecial 9, 3, 0, 42, 749) := by decide +kernel
theorem xl_k7 : xe_look (xc 135) 7 = some (.astore_n 1, 1, 0, 0, 0) := by decide +kernel
theorem xl_k8 : xe_look (xc 135) 8 = some (.new 10, 3, 12, 0, 750) := by decide +kernel
theorem xl_k11 : xe_look (xc 135) 11 = some (.dup, 1, 0, 0, 0) := by decide +kernel
theorem xl_k12 : xe_look (xc 135) 12 = some (.invokespecial 12, 3, 0, 99, 751) := by decide +kernel
theorem xl_k15 : xe_look (xc 135) 15 = some (.astore_n 2, 1, 0, 0, 0) := by decide +kernel
theorem xl_k16 : xe_look (xc 135) 16 = some (.iconst 0, 1, 0, 0, 0) := by decide +kernel
theorem xl_k17 : xe_look (xc 135) 17 = some (.istore_n 3, 1, 0, 0, 0) := by decide +kernel
theorem xl_k18 : xe_look (xc 135) 18 = some (.iload_n 3, 1, 0, 0, 0) := by decide +kernel
theorem xl_k19 : xe_look (xc 135) 19 = some (.aload_n 0, 1, 0, 0, 0) := by decide +kernel
theorem xl_k20 : xe_look (xc 135) 20 = some (.arraylength, 1, 0, 0, 0) := by decide +kernel
theorem xl_k21 : xe_look (xc 135) 21 = some (.bipush 6, 2, 0, 0, 0) := by decide +kernel
theorem xl_k23 : xe_look (xc 135) 23 = some (.isub, 1, 0, 0, 0) := by decide +kernel
theorem xl_k24 : xe_look (xc 135) 24 = some (.if_icmp .gt 1302, 3, 0, 0, 0) := by decide +kernel
theorem xl_k27 : xe_look (xc 135) 27 = some (.aload_n 0, 1, 0, 0, 0) := by decide +kernel
theorem xl_k28 : xe_look (xc 135) 28 = some (.iload_n 3, 1, 0, 0, 0) := by decide +kernel
theorem xl_k29 : xe_look (xc 135) 29 = some (.iaload, 1, 0, 0, 0) := by decide +kernel
theorem xl_k30 : xe_look (xc 135) 30 = some (.bipush 63, 2, 0, 0, 0) := by decide +kernel
theorem xl_k32 : xe_look (xc 135) 32 = some (.iand, 1, 0, 0, 0) := by decide +kernel
theorem xl_k33 : xe_look (xc 135) 33 = some (.tableswitch 1287 0 34 #[155, 218, 271, 304, 337, 360, 403, 426, 449, 472, 515, 558, 591, 614, 627, 650, 703, 737, 771, 804, 837, 871, 904, 938, 992, 1035, 1068, 1101, 1145, 1169, 1182, 1205, 1218, 1231, 1264], 155, 0, 0, 0) := by decide +kernel
theorem xl_d18 : decode code 18 = .ok (.iload_n 3, 1) := by decide +kernel
theorem xl_d19 : decode code 19 = .ok (.aload_n 0, 1) := by decide +kernel
theorem xl_d20 : decode code 20 = .ok (.arraylength, 1) := by decide +kernel
theorem xl_d21 : decode code 21 = .ok (.bipush 6, 2) := by decide +kernel
theorem xl_d23 : decode code 23 = .ok (.isub, 1) := by decide +kernel
theorem xl_d24 : decode code 24 = .ok (.if_icmp .gt 1302, 3) := by decide +kernel
theorem xl_d27 : decode code 27 = .ok (.aload_n 0, 1) := by decide +kernel
theorem xl_d28 : decode code 28 = .ok (.iload_n 3, 1) := by decide +kernel
theorem xl_d29 : decode code 29 = .ok (.iaload, 1) := by decide +kernel
theorem xl_d30 : decode code 30 = .ok (.bipush 63, 2) := by decide +kernel
theorem xl_d32 : decode code 32 = .ok (.iand, 1) := by decide +kernel
theorem xl_d33 : decode code 33 = .ok (.tableswitch 1287 0 34 #[155, 218, 271, 304, 337, 360, 403, 426, 449, 472, 515, 558, 591, 614, 627, 650, 703, 737, 771, 804, 837, 871, 904, 938, 992, 1035, 1068, 1101, 1145, 1169, 1182, 1205, 1218, 1231, 1264], 155) := by decide +kernel
theorem xl_e : xl_ok (xe_run 50 30 [] 135 (xc 135) 1326 xl_lv [] xs_2 (0, 0)) = true := by decide +kernel
def xo_cd : List (List xe_v) := [xb_T, xb_T, xb_T, xb_T, xb_T]
theorem xo_vd : (xo_cd.all fun c => xb_cv 0 c) = true := by decide +kernel
theorem xo_rd : xl_go 100 1320 xo_cd = true := by decide +kernel
theorem xl_63 (x : Int32) : ¬ (x &&& (Int8.ofInt 63).toInt32).toInt < 0 ∧ (x &&& (Int8.ofInt 63).toInt32).toInt ≤ 63 := by
  have h : (x &&& (Int8.ofInt 63).toInt32).toBitVec.toNat ≤ 63 := by
    show (x.toBitVec &&& (Int8.ofInt 63).toInt32.toBitVec).toNat ≤ 63
    rw [BitVec.toNat_and]
    exact Nat.le_trans Nat.and_le_right (by decide +kernel)
  rw [← Int32.toInt_toBitVec, BitVec.toInt_eq_toNat_cond]
  split <;> omega
set_option maxHeartbeats 8000000 in
set_option maxRecDepth 20000 in
theorem whole_start {p : Program} {e : Env} {s : State} {m : MethodId} {below : List Frame} {meth : Method} {c : Code} (l : Launch) (hflags : l.flags = flags0) {b L : Nat} {xs : Nat → Int32} (hL : L ≤ 6) (C0 : lw_At p s m meth c b L xs) : W p l e room_1 s m #[Value.ref b] below meth c s.heap [] 0 0 (lw_Z below #[Value.ref b] s) (entryFrame m ([Value.ref b] : List Value).toArray 4) := by
  obtain ⟨hx, hb, hr, hml, hown, hts, hX, hbl, hlocks, hgv⟩ := id C0
  obtain ⟨D, E, hK⟩ := xl_start hts
  have X : xe_X p room_1 s m #[Value.ref b] meth c D E (xl_A s) b [] 30 135 := xl_X C0 hK (Or.inl rfl)
  have hbA : ¬ xl_A s b := Nat.not_le.mpr hbl
  have hl := lv_entry ([.ref b]) (n := 4) (Nat.le_of_ble_eq_true rfl)
  rw [lg_entry_eq]
  generalize (lg_sl ([.ref b]) ++ List.replicate (4 - (lg_sl ([.ref b])).length) Slot.unset).toArray = ls at hl ⊢
  have hl : lv_has ls (xm 135).2.2.1 [(0, .ref b)] := hl
  have hp : xe_p b [] [(0, (4, 0, 0))] [(0, .ref b)] := ⟨⟨rfl, rfl⟩, trivial⟩
  have hP : va_P D xk_cl [] s.heap := fun k q h => by simp at h
  have hD : va_D (xl_A s) [] := ⟨fun i j p q h => by simp at h, fun k q h => by simp at h⟩
  have hS : va_S (xl_A s) s.heap s.heap [] := va_S.rf
  have hR : xe_R E b [] xh_0 [] := ⟨rfl, rfl, Nat.zero_le _, fun k c h => absurd (xh_lt h).1 (Nat.not_lt_zero k)⟩
  refine xe_al_ok (w := ([(3, 0, 0)], xh_p xh_0 (0, 11, xe_df 11 13, (2, 0, 0), []), 13)) X (xe_ck xl_k0) hR hP hD hS (st := []) trivial (by rfl) (Nat.le_of_ble_eq_true rfl) (Nat.le_of_ble_eq_true rfl) (fun H1 ws1 as1 st1 b1 hR1 hP1 hD1 hS1 hw1 => ?_)
  have hp1 := xe_p_m b1 hp
  refine xe_push_ok (st2 := [(3, 0, 0), (3, 0, 0)]) X (xe_ck xl_k3) hR1 hP1 hS1 hl hp1 hw1 ⟨Nat.le_of_ble_eq_true rfl, Nat.le_of_ble_eq_true rfl⟩ rfl (fun st2 hw2 => ?_)
  refine xe_cal_ok (ar := ([(3, 0, 0)], [(3, 0, 0)])) (outs := [(none, xs_1)]) X (xe_ck xl_k4) hR1 hP1 hD1 hS1 hl.1 hw2 (by decide +kernel) (by decide) (by decide +kernel) (xe_met l (by decide) (by decide +kernel) xs_r1) (Nat.le_of_ble_eq_true rfl) (Nat.le_of_ble_eq_true rfl) (fun o ho v as2 ws2 H2 locs2 rest c1 b2 hR2 hP2 hD2 hS2 hw3 => ?_)
  have eo := List.mem_singleton.mp ho
  subst eo
  have ev : v.toList = [] := xe_w_nil c1
  rw [ev, List.nil_append]
  have hw3 := xe_w_m b2 hw3
  have hp2 := xe_p_m b2 hp1
  refine xe_sto_ok (w := ([(1, (3, 0, 0)), (0, (4, 0, 0))], [])) X (xe_ck xl_k7) hl hp2 hw3 (by decide +kernel) (fun lc3 ls3 st4 hl3 hp3 hw4 => ?_)
  refine xe_al_ok (w := ([(3, 196, 0)], xh_p xs_1 (0, 12, xe_df 12 90, (2, 0, 0), []), 90)) X (xe_ck xl_k8) hR2 hP2 hD2 hS2 hw4 (by rfl) (Nat.le_of_ble_eq_true rfl) (Nat.le_of_ble_eq_true rfl) (fun H3 ws3 as3 st5 b3 hR3 hP3 hD3 hS3 hw5 => ?_)
  have hp4 := xe_p_m b3 hp3
  refine xe_push_ok (st2 := [(3, 196, 0), (3, 196, 0)]) X (xe_ck xl_k11) hR3 hP3 hS3 hl3 hp4 hw5 ⟨Nat.le_of_ble_eq_true rfl, Nat.le_of_ble_eq_true rfl⟩ rfl (fun st6 hw6 => ?_)
  refine xe_cal_ok (ar := ([(3, 196, 0)], [(3, 196, 0)])) (outs := [(none, xs_2)]) X (xe_ck xl_k12) hR3 hP3 hD3 hS3 hl3.1 hw6 (by decide +kernel) (by decide) (by decide +kernel) (xe_met l (by decide) (by decide +kernel) xs_r2) (Nat.le_of_ble_eq_true rfl) (Nat.le_of_ble_eq_true rfl) (fun o ho v as4 ws4 H4 locs4 rest2 c2 b4 hR4 hP4 hD4 hS4 hw7 => ?_)
  have eo := List.mem_singleton.mp ho
  subst eo
  have ev : v.toList = [] := xe_w_nil c2
  rw [ev, List.nil_append]
  have hw7 := xe_w_m b4 hw7
  have hp5 := xe_p_m b4 hp4
  refine xe_sto_ok (w := ([(2, (3, 196, 0)), (1, (3, 0, 0)), (0, (4, 0, 0))], [])) X (xe_ck xl_k15) hl3 hp5 hw7 (by decide +kernel) (fun lc6 ls6 st8 hl6 hp6 hw8 => ?_)
  refine xe_push_ok (st2 := [(0, 2147483648, 2147483648)]) X (xe_ck xl_k16) hR4 hP4 hS4 hl6 hp6 hw8 ⟨Nat.le_of_ble_eq_true rfl, Nat.le_of_ble_eq_true rfl⟩ (by decide +kernel) (fun st9 hw9 => ?_)
  refine xe_sto_ok (w := (xl_lv, [])) X (xe_ck xl_k17) hl6 hp6 hw9 (by decide +kernel) (fun lc7 ls7 st10 hl7 hp7 hw10 => ?_)
  have e10 := xe_w_nil hw10
  subst e10
  have hl7 : lv_has ls7 4 lc7 := hl7
  obtain ⟨v3, n3, hn3, g3, hp8⟩ := xe_p_cons hp7
  obtain ⟨v2, n2, hn2, g2, hp9⟩ := xe_p_cons hp8
  obtain ⟨v1, n1, hn1, g1, hp10⟩ := xe_p_cons hp9
  obtain ⟨v0, n0, hn0, g0, hp11⟩ := xe_p_cons hp10
  obtain ⟨x3, rfl, q1, q2⟩ := xe_g0 (by rfl) g3
  have e0 := xe_g4 (by rfl) g0
  subst e0
  have e3 : x3 = nI 0 := xe_nI (by dsimp only at q1 q2; omega)
  subst e3
  have k3 : lc7[0]? = some (3, .int (nI 0)) := by rw [hn3]; rfl
  have k0 : lc7[3]? = some (0, .ref b) := by rw [hn3, hn2, hn1, hn0]; rfl
  refine W.eq (g2 := F0 m 18 ls7 []) rfl ?_
  refine lv_iload_n hx hb xl_d18 rfl (lv_at hl7 0 k3) ?_
  refine lv_aload_n hx hb xl_d19 rfl (lv_at hl7 3 k0) ?_
  refine va_slen hx hb hX hbl hbA hS4 xl_d20 ?_
  refine lv_bipush hx hb xl_d21 rfl ?_
  refine lv_isub hx hb xl_d23 ?_
  refine lv_icmp_gt (tgt := 1326) hx hb xl_d24 (by decide) (fun kt => ?_) (fun kf => ?_)
  · exact xl_run C0 hK (Or.inl rfl) xl_e (Nat.le_of_ble_eq_true rfl) (Nat.le_of_ble_eq_true rfl) hR4 hP4 hD4 hS4 hl7 hp7
  · have e6 : L = 6 := by
      rcases (by omega : L = 0 ∨ L = 1 ∨ L = 2 ∨ L = 3 ∨ L = 4 ∨ L = 5 ∨ L = 6) with rfl | rfl | rfl | rfl | rfl | rfl | rfl
      · exact absurd (by decide +kernel) kf
      · exact absurd (by decide +kernel) kf
      · exact absurd (by decide +kernel) kf
      · exact absurd (by decide +kernel) kf
      · exact absurd (by decide +kernel) kf
      · exact absurd (by decide +kernel) kf
      · rfl
    subst e6
    refine lv_aload_n hx hb xl_d27 rfl (lv_at hl7 3 k0) ?_
    refine lv_iload_n hx hb xl_d28 rfl (lv_at hl7 0 k3) ?_
    refine va_sld hx hb hX hbl hbA hS4 (vp_in_nI (by decide) (by decide)) xl_d29 ?_
    refine lv_bipush hx hb xl_d30 rfl ?_
    refine lv_iand hx hb xl_d32 ?_
    have h63 := xl_63 (xs (nI 0).toNatClampNeg)
    generalize (xs (nI 0).toNatClampNeg &&& (Int8.ofInt 63).toInt32) = y at h63 ⊢
    by_cases hy : 34 < y.toInt
    · exact lv_tableOut (tgt := 1320) hx hb xl_d33 (Or.inr hy) (by decide) (xl_box C0 hK (Nat.le_of_ble_eq_true rfl) (Nat.le_of_ble_eq_true rfl) hR4 hP4 hD4 hS4 hl7 hp7 xo_vd rfl xo_rd)
    · obtain ⟨k, hk⟩ : ∃ k : Nat, (y.toInt - 0).toNat = k := ⟨_, rfl⟩
      have hk2 : k ≤ 34 := by omega
      match k, hk, hk2 with
      | 0, hk, _ => exact lv_tableIn (off := 155) (tgt := 188) hx hb xl_d33 h63.1 hy (by rw [hk]; rfl) (by decide) (xl_box C0 hK (Nat.le_of_ble_eq_true rfl) (Nat.le_of_ble_eq_true rfl) hR4 hP4 hD4 hS4 hl7 hp7 xo_v0 rfl xo_r0)
      | 1, hk, _ => exact lv_tableIn (off := 218) (tgt := 251) hx hb xl_d33 h63.1 hy (by rw [hk]; rfl) (by decide) (xl_box C0 hK (Nat.le_of_ble_eq_true rfl) (Nat.le_of_ble_eq_true rfl) hR4 hP4 hD4 hS4 hl7 hp7 xo_v1 rfl xo_r1)
      | 2, hk, _ => exact lv_tableIn (off := 271) (tgt := 304) hx hb xl_d33 h63.1 hy (by rw [hk]; rfl) (by decide) (xl_box C0 hK (Nat.le_of_ble_eq_true rfl) (Nat.le_of_ble_eq_true rfl) hR4 hP4 hD4 hS4 hl7 hp7 xo_v2 rfl xo_r2)
      | 3, hk, _ => exact lv_tableIn (off := 304) (tgt := 337) hx hb xl_d33 h63.1 hy (by rw [hk]; rfl) (by decide) (xl_box C0 hK (Nat.le_of_ble_eq_true rfl) (Nat.le_of_ble_eq_true rfl) hR4 hP4 hD4 hS4 hl7 hp7 xo_v3 rfl xo_r3)
      | 4, hk, _ => exact lv_tableIn (off := 337) (tgt := 370) hx hb xl_d33 h63.1 hy (by rw [hk]; rfl) (by decide) (xl_box C0 hK (Nat.le_of_ble_eq_true rfl) (Nat.le_of_ble_eq_true rfl) hR4 hP4 hD4 hS4 hl7 hp7 xo_v4 rfl xo_r4)
      | 5, hk, _ => exact lv_tableIn (off := 360) (tgt := 393) hx hb xl_d33 h63.1 hy (by rw [hk]; rfl) (by decide) (xl_box C0 hK (Nat.le_of_ble_eq_true rfl) (Nat.le_of_ble_eq_true rfl) hR4 hP4 hD4 hS4 hl7 hp7 xo_v5 rfl xo_r5)
      | 6, hk, _ => exact lv_tableIn (off := 403) (tgt := 436) hx hb xl_d33 h63.1 hy (by rw [hk]; rfl) (by decide) (xl_box C0 hK (Nat.le_of_ble_eq_true rfl) (Nat.le_of_ble_eq_true rfl) hR4 hP4 hD4 hS4 hl7 hp7 xo_v6 rfl xo_r6)
      | 7, hk, _ => exact lv_tableIn (off := 426) (tgt := 459) hx hb xl_d33 h63.1 hy (by rw [hk]; rfl) (by decide) (xl_box C0 hK (Nat.le_of_ble_eq_true rfl) (Nat.le_of_ble_eq_true rfl) hR4 hP4 hD4 hS4 hl7 hp7 xo_v7 rfl xo_r7)
      | 8, hk, _ => exact lv_tableIn (off := 449) (tgt := 482) hx hb xl_d33 h63.1 hy (by rw [hk]; rfl) (by decide) (xl_box C0 hK (Nat.le_of_ble_eq_true rfl) (Nat.le_of_ble_eq_true rfl) hR4 hP4 hD4 hS4 hl7 hp7 xo_v8 rfl xo_r8)
      | 9, hk, _ => exact lv_tableIn (off := 472) (tgt := 505) hx hb xl_d33 h63.1 hy (by rw [hk]; rfl) (by decide) (xl_box C0 hK (Nat.le_of_ble_eq_true rfl) (Nat.le_of_ble_eq_true rfl) hR4 hP4 hD4 hS4 hl7 hp7 xo_v9 rfl xo_r9)
      | 10, hk, _ => exact lv_tableIn (off := 515) (tgt := 548) hx hb xl_d33 h63.1 hy (by rw [hk]; rfl) (by decide) (xl_box C0 hK (Nat.le_of_ble_eq_true rfl) (Nat.le_of_ble_eq_true rfl) hR4 hP4 hD4 hS4 hl7 hp7 xo_v10 rfl xo_r10)
      | 11, hk, _ => exact lv_tableIn (off := 558) (tgt := 591) hx hb xl_d33 h63.1 hy (by rw [hk]; rfl) (by decide) (xl_box C0 hK (Nat.le_of_ble_eq_true rfl) (Nat.le_of_ble_eq_true rfl) hR4 hP4 hD4 hS4 hl7 hp7 xo_v11 rfl xo_r11)
      | 12, hk, _ => exact lv_tableIn (off := 591) (tgt := 624) hx hb xl_d33 h63.1 hy (by rw [hk]; rfl) (by decide) (xl_box C0 hK (Nat.le_of_ble_eq_true rfl) (Nat.le_of_ble_eq_true rfl) hR4 hP4 hD4 hS4 hl7 hp7 xo_v12 rfl xo_r12)
      | 13, hk, _ => exact lv_tableIn (off := 614) (tgt := 647) hx hb xl_d33 h63.1 hy (by rw [hk]; rfl) (by decide) (xl_box C0 hK (Nat.le_of_ble_eq_true rfl) (Nat.le_of_ble_eq_true rfl) hR4 hP4 hD4 hS4 hl7 hp7 xo_v13 rfl xo_r13)
      | 14, hk, _ => exact lv_tableIn (off := 627) (tgt := 660) hx hb xl_d33 h63.1 hy (by rw [hk]; rfl) (by decide) (xl_box C0 hK (Nat.le_of_ble_eq_true rfl) (Nat.le_of_ble_eq_true rfl) hR4 hP4 hD4 hS4 hl7 hp7 xo_v14 rfl xo_r14)
      | 15, hk, _ => exact lv_tableIn (off := 650) (tgt := 683) hx hb xl_d33 h63.1 hy (by rw [hk]; rfl) (by decide) (xl_box C0 hK (Nat.le_of_ble_eq_true rfl) (Nat.le_of_ble_eq_true rfl) hR4 hP4 hD4 hS4 hl7 hp7 xo_v15 rfl xo_r15)
      | 16, hk, _ => exact lv_tableIn (off := 703) (tgt := 736) hx hb xl_d33 h63.1 hy (by rw [hk]; rfl) (by decide) (xl_box C0 hK (Nat.le_of_ble_eq_true rfl) (Nat.le_of_ble_eq_true rfl) hR4 hP4 hD4 hS4 hl7 hp7 xo_v16 rfl xo_r16)
      | 17, hk, _ => exact lv_tableIn (off := 737) (tgt := 770) hx hb xl_d33 h63.1 hy (by rw [hk]; rfl) (by decide) (xl_box C0 hK (Nat.le_of_ble_eq_true rfl) (Nat.le_of_ble_eq_true rfl) hR4 hP4 hD4 hS4 hl7 hp7 xo_v17 rfl xo_r17)
      | 18, hk, _ => exact lv_tableIn (off := 771) (tgt := 804) hx hb xl_d33 h63.1 hy (by rw [hk]; rfl) (by decide) (xl_box C0 hK (Nat.le_of_ble_eq_true rfl) (Nat.le_of_ble_eq_true rfl) hR4 hP4 hD4 hS4 hl7 hp7 xo_v18 rfl xo_r18)
      | 19, hk, _ => exact lv_tableIn (off := 804) (tgt := 837) hx hb xl_d33 h63.1 hy (by rw [hk]; rfl) (by decide) (xl_box C0 hK (Nat.le_of_ble_eq_true rfl) (Nat.le_of_ble_eq_true rfl) hR4 hP4 hD4 hS4 hl7 hp7 xo_v19 rfl xo_r19)
      | 20, hk, _ => exact lv_tableIn (off := 837) (tgt := 870) hx hb xl_d33 h63.1 hy (by rw [hk]; rfl) (by decide) (xl_box C0 hK (Nat.le_of_ble_eq_true rfl) (Nat.le_of_ble_eq_true rfl) hR4 hP4 hD4 hS4 hl7 hp7 xo_v20 rfl xo_r20)
      | 21, hk, _ => exact lv_tableIn (off := 871) (tgt := 904) hx hb xl_d33 h63.1 hy (by rw [hk]; rfl) (by decide) (xl_box C0 hK (Nat.le_of_ble_eq_true rfl) (Nat.le_of_ble_eq_true rfl) hR4 hP4 hD4 hS4 hl7 hp7 xo_v21 rfl xo_r21)
      | 22, hk, _ => exact lv_tableIn (off := 904) (tgt := 937) hx hb xl_d33 h63.1 hy (by rw [hk]; rfl) (by decide) (xl_box C0 hK (Nat.le_of_ble_eq_true rfl) (Nat.le_of_ble_eq_true rfl) hR4 hP4 hD4 hS4 hl7 hp7 xo_v22 rfl xo_r22)
      | 23, hk, _ => exact lv_tableIn (off := 938) (tgt := 971) hx hb xl_d33 h63.1 hy (by rw [hk]; rfl) (by decide) (xl_box C0 hK (Nat.le_of_ble_eq_true rfl) (Nat.le_of_ble_eq_true rfl) hR4 hP4 hD4 hS4 hl7 hp7 xo_v23 rfl xo_r23)
      | 24, hk, _ => exact lv_tableIn (off := 992) (tgt := 1025) hx hb xl_d33 h63.1 hy (by rw [hk]; rfl) (by decide) (xl_box C0 hK (Nat.le_of_ble_eq_true rfl) (Nat.le_of_ble_eq_true rfl) hR4 hP4 hD4 hS4 hl7 hp7 xo_v24 rfl xo_r24)
      | 25, hk, _ => exact lv_tableIn (off := 1035) (tgt := 1068) hx hb xl_d33 h63.1 hy (by rw [hk]; rfl) (by decide) (xl_box C0 hK (Nat.le_of_ble_eq_true rfl) (Nat.le_of_ble_eq_true rfl) hR4 hP4 hD4 hS4 hl7 hp7 xo_v25 rfl xo_r25)
      | 26, hk, _ => exact lv_tableIn (off := 1068) (tgt := 1101) hx hb xl_d33 h63.1 hy (by rw [hk]; rfl) (by decide) (xl_box C0 hK (Nat.le_of_ble_eq_true rfl) (Nat.le_of_ble_eq_true rfl) hR4 hP4 hD4 hS4 hl7 hp7 xo_v26 rfl xo_r26)
      | 27, hk, _ => exact lv_tableIn (off := 1101) (tgt := 1134) hx hb xl_d33 h63.1 hy (by rw [hk]; rfl) (by decide) (xl_box C0 hK (Nat.le_of_ble_eq_true rfl) (Nat.le_of_ble_eq_true rfl) hR4 hP4 hD4 hS4 hl7 hp7 xo_v27 rfl xo_r27)
      | 28, hk, _ => exact lv_tableIn (off := 1145) (tgt := 1178) hx hb xl_d33 h63.1 hy (by rw [hk]; rfl) (by decide) (xl_box C0 hK (Nat.le_of_ble_eq_true rfl) (Nat.le_of_ble_eq_true rfl) hR4 hP4 hD4 hS4 hl7 hp7 xo_v28 rfl xo_r28)
      | 29, hk, _ => exact lv_tableIn (off := 1169) (tgt := 1202) hx hb xl_d33 h63.1 hy (by rw [hk]; rfl) (by decide) (xl_box C0 hK (Nat.le_of_ble_eq_true rfl) (Nat.le_of_ble_eq_true rfl) hR4 hP4 hD4 hS4 hl7 hp7 xo_v29 rfl xo_r29)
      | 30, hk, _ => exact lv_tableIn (off := 1182) (tgt := 1215) hx hb xl_d33 h63.1 hy (by rw [hk]; rfl) (by decide) (xl_box C0 hK (Nat.le_of_ble_eq_true rfl) (Nat.le_of_ble_eq_true rfl) hR4 hP4 hD4 hS4 hl7 hp7 xo_v30 rfl xo_r30)
      | 31, hk, _ => exact lv_tableIn (off := 1205) (tgt := 1238) hx hb xl_d33 h63.1 hy (by rw [hk]; rfl) (by decide) (xl_box C0 hK (Nat.le_of_ble_eq_true rfl) (Nat.le_of_ble_eq_true rfl) hR4 hP4 hD4 hS4 hl7 hp7 xo_v31 rfl xo_r31)
      | 32, hk, _ => exact lv_tableIn (off := 1218) (tgt := 1251) hx hb xl_d33 h63.1 hy (by rw [hk]; rfl) (by decide) (xl_box C0 hK (Nat.le_of_ble_eq_true rfl) (Nat.le_of_ble_eq_true rfl) hR4 hP4 hD4 hS4 hl7 hp7 xo_v32 rfl xo_r32)
      | 33, hk, _ => exact lv_tableIn (off := 1231) (tgt := 1264) hx hb xl_d33 h63.1 hy (by rw [hk]; rfl) (by decide) (xl_box C0 hK (Nat.le_of_ble_eq_true rfl) (Nat.le_of_ble_eq_true rfl) hR4 hP4 hD4 hS4 hl7 hp7 xo_v33 rfl xo_r33)
      | 34, hk, _ => exact lv_tableIn (off := 1264) (tgt := 1297) hx hb xl_d33 h63.1 hy (by rw [hk]; rfl) (by decide) (xl_box C0 hK (Nat.le_of_ble_eq_true rfl) (Nat.le_of_ble_eq_true rfl) hR4 hP4 hD4 hS4 hl7 hp7 xo_v34 rfl xo_r34)
      | n + 35, _, h => exact absurd h (by omega)
