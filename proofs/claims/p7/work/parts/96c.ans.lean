/-! by hand: answers that hang on the arguments alone: looker, seed (printed by wip/e2/ans.py) -/
theorem ff_8 : (eG (cn 196 + 8)).2.2 = [204] := by decide +kernel
theorem el_203 : eL[203]? = some (1, 8) := by decide +kernel
theorem ar_8 {d i : Nat} {lv : List (Nat × pv)} {r : List pv} {g : pH} (hG : g_I eG g) : px_push eL d none (.getfield i) 12 8 lv (pvR 196 :: r) g = some (pvR 203 :: r) := pget el_196 (gI_r (r := 203) hG el_196 (Nat.le_of_ble_eq_true rfl) (y := 8) rfl ff_8)
theorem ff_9 : (eG (cn 196 + 9)).2.2 = [205] := by decide +kernel
theorem el_204 : eL[204]? = some (1, 8) := by decide +kernel
theorem ar_9 {d i : Nat} {lv : List (Nat × pv)} {r : List pv} {g : pH} (hG : g_I eG g) : px_push eL d none (.getfield i) 12 9 lv (pvR 196 :: r) g = some (pvR 204 :: r) := pget el_196 (gI_r (r := 204) hG el_196 (Nat.le_of_ble_eq_true rfl) (y := 9) rfl ff_9)
theorem qlc7_0 : xe_look (xc 134) 0 = some (.iload_n 1, 1, 0, 0, 0) := by decide +kernel
theorem qlc7_1 : xe_look (xc 134) 1 = some (.iconst 0, 1, 0, 0, 0) := by decide +kernel
theorem qlc7_2 : xe_look (xc 134) 2 = some (.bipush 7, 2, 0, 0, 0) := by decide +kernel
theorem qlc7_4 : xe_look (xc 134) 4 = some (.invokestatic 89, 3, 0, 124, 994) := by decide +kernel
theorem qlc7_7 : xe_look (xc 134) 7 = some (.ifCond .eq 24, 3, 0, 0, 0) := by decide +kernel
theorem qlc7_10 : xe_look (xc 134) 10 = some (.iload_n 2, 1, 0, 0, 0) := by decide +kernel
theorem qlc7_11 : xe_look (xc 134) 11 = some (.iconst 0, 1, 0, 0, 0) := by decide +kernel
theorem qlc7_12 : xe_look (xc 134) 12 = some (.bipush 9, 2, 0, 0, 0) := by decide +kernel
theorem qlc7_14 : xe_look (xc 134) 14 = some (.invokestatic 89, 3, 0, 124, 994) := by decide +kernel
theorem qlc7_17 : xe_look (xc 134) 17 = some (.ifCond .eq 14, 3, 0, 0, 0) := by decide +kernel
theorem qlc7_20 : xe_look (xc 134) 20 = some (.iload_n 3, 1, 0, 0, 0) := by decide +kernel
theorem qlc7_21 : xe_look (xc 134) 21 = some (.iconst 0, 1, 0, 0, 0) := by decide +kernel
theorem qlc7_22 : xe_look (xc 134) 22 = some (.sipush 9999, 3, 0, 0, 0) := by decide +kernel
theorem qlc7_25 : xe_look (xc 134) 25 = some (.invokestatic 89, 3, 0, 124, 994) := by decide +kernel
theorem qlc7_28 : xe_look (xc 134) 28 = some (.ifCond .ne 5, 3, 0, 0, 0) := by decide +kernel
theorem qlc7_31 : xe_look (xc 134) 31 = some (.iconst 0, 1, 0, 0, 0) := by decide +kernel
theorem qlc7_32 : xe_look (xc 134) 32 = some (.ireturn, 1, 0, 0, 0) := by decide +kernel
theorem qlc7_33 : xe_look (xc 134) 33 = some (.aload_n 0, 1, 0, 0, 0) := by decide +kernel
theorem qlc7_34 : xe_look (xc 134) 34 = some (.getfield 16, 3, 11, 2, 983) := by decide +kernel
theorem qlc7_37 : xe_look (xc 134) 37 = some (.dup, 1, 0, 0, 0) := by decide +kernel
theorem qlc7_38 : xe_look (xc 134) 38 = some (.getfield 140, 3, 8, 1, 999) := by decide +kernel
theorem qlc7_41 : xe_look (xc 134) 41 = some (.iconst 1, 1, 0, 0, 0) := by decide +kernel
theorem qlc7_42 : xe_look (xc 134) 42 = some (.iload_n 1, 1, 0, 0, 0) := by decide +kernel
theorem qlc7_43 : xe_look (xc 134) 43 = some (.ishl, 1, 0, 0, 0) := by decide +kernel
theorem qlc7_44 : xe_look (xc 134) 44 = some (.ior, 1, 0, 0, 0) := by decide +kernel
theorem qlc7_45 : xe_look (xc 134) 45 = some (.putfield 140, 3, 8, 1, 999) := by decide +kernel
theorem qlc7_48 : xe_look (xc 134) 48 = some (.aload_n 0, 1, 0, 0, 0) := by decide +kernel
theorem qlc7_49 : xe_look (xc 134) 49 = some (.getfield 16, 3, 11, 2, 983) := by decide +kernel
theorem qlc7_52 : xe_look (xc 134) 52 = some (.getfield 143, 3, 8, 2, 996) := by decide +kernel
theorem qlc7_55 : xe_look (xc 134) 55 = some (.iload_n 1, 1, 0, 0, 0) := by decide +kernel
theorem qlc7_56 : xe_look (xc 134) 56 = some (.iload_n 2, 1, 0, 0, 0) := by decide +kernel
theorem qlc7_57 : xe_look (xc 134) 57 = some (.iastore, 1, 0, 0, 0) := by decide +kernel
theorem qlc7_58 : xe_look (xc 134) 58 = some (.aload_n 0, 1, 0, 0, 0) := by decide +kernel
theorem qlc7_59 : xe_look (xc 134) 59 = some (.getfield 16, 3, 11, 2, 983) := by decide +kernel
theorem qlc7_62 : xe_look (xc 134) 62 = some (.getfield 146, 3, 8, 3, 997) := by decide +kernel
theorem qlc7_65 : xe_look (xc 134) 65 = some (.iload_n 1, 1, 0, 0, 0) := by decide +kernel
theorem qlc7_66 : xe_look (xc 134) 66 = some (.iload_n 3, 1, 0, 0, 0) := by decide +kernel
theorem qlc7_67 : xe_look (xc 134) 67 = some (.iastore, 1, 0, 0, 0) := by decide +kernel
theorem qlc7_68 : xe_look (xc 134) 68 = some (.iconst 1, 1, 0, 0, 0) := by decide +kernel
theorem qlc7_69 : xe_look (xc 134) 69 = some (.ireturn, 1, 0, 0, 0) := by decide +kernel
theorem qlk_0 : xe_look (xc 221) 0 = some (.iload_n 1, 1, 0, 0, 0) := by decide +kernel
theorem qlk_1 : xe_look (xc 221) 1 = some (.iconst 0, 1, 0, 0, 0) := by decide +kernel
theorem qlk_2 : xe_look (xc 221) 2 = some (.bipush 7, 2, 0, 0, 0) := by decide +kernel
theorem qlk_4 : xe_look (xc 221) 4 = some (.invokestatic 201, 3, 0, 199, 1131) := by decide +kernel
theorem qlk_7 : xe_look (xc 221) 7 = some (.ifCond .eq 24, 3, 0, 0, 0) := by decide +kernel
theorem qlk_10 : xe_look (xc 221) 10 = some (.iload_n 2, 1, 0, 0, 0) := by decide +kernel
theorem qlk_11 : xe_look (xc 221) 11 = some (.iconst 0, 1, 0, 0, 0) := by decide +kernel
theorem qlk_12 : xe_look (xc 221) 12 = some (.bipush 9, 2, 0, 0, 0) := by decide +kernel
theorem qlk_14 : xe_look (xc 221) 14 = some (.invokestatic 201, 3, 0, 199, 1131) := by decide +kernel
theorem qlk_17 : xe_look (xc 221) 17 = some (.ifCond .eq 14, 3, 0, 0, 0) := by decide +kernel
theorem qlk_20 : xe_look (xc 221) 20 = some (.iload_n 3, 1, 0, 0, 0) := by decide +kernel
theorem qlk_21 : xe_look (xc 221) 21 = some (.iconst 0, 1, 0, 0, 0) := by decide +kernel
theorem qlk_22 : xe_look (xc 221) 22 = some (.sipush 9999, 3, 0, 0, 0) := by decide +kernel
theorem qlk_25 : xe_look (xc 221) 25 = some (.invokestatic 201, 3, 0, 199, 1131) := by decide +kernel
theorem qlk_28 : xe_look (xc 221) 28 = some (.ifCond .ne 5, 3, 0, 0, 0) := by decide +kernel
theorem qlk_31 : xe_look (xc 221) 31 = some (.iconst 0, 1, 0, 0, 0) := by decide +kernel
theorem qlk_32 : xe_look (xc 221) 32 = some (.ireturn, 1, 0, 0, 0) := by decide +kernel
theorem qlk_33 : xe_look (xc 221) 33 = some (.aload_n 0, 1, 0, 0, 0) := by decide +kernel
theorem qlk_34 : xe_look (xc 221) 34 = some (.aload_n 0, 1, 0, 0, 0) := by decide +kernel
theorem qlk_35 : xe_look (xc 221) 35 = some (.getfield 191, 3, 12, 1, 1160) := by decide +kernel
theorem qlk_38 : xe_look (xc 221) 38 = some (.iconst 1, 1, 0, 0, 0) := by decide +kernel
theorem qlk_39 : xe_look (xc 221) 39 = some (.iload_n 1, 1, 0, 0, 0) := by decide +kernel
theorem qlk_40 : xe_look (xc 221) 40 = some (.ishl, 1, 0, 0, 0) := by decide +kernel
theorem qlk_41 : xe_look (xc 221) 41 = some (.ior, 1, 0, 0, 0) := by decide +kernel
theorem qlk_42 : xe_look (xc 221) 42 = some (.putfield 191, 3, 12, 1, 1160) := by decide +kernel
theorem qlk_45 : xe_look (xc 221) 45 = some (.aload_n 0, 1, 0, 0, 0) := by decide +kernel
theorem qlk_46 : xe_look (xc 221) 46 = some (.getfield 28, 3, 12, 8, 1165) := by decide +kernel
theorem qlk_49 : xe_look (xc 221) 49 = some (.iload_n 1, 1, 0, 0, 0) := by decide +kernel
theorem qlk_50 : xe_look (xc 221) 50 = some (.iload_n 2, 1, 0, 0, 0) := by decide +kernel
theorem qlk_51 : xe_look (xc 221) 51 = some (.iastore, 1, 0, 0, 0) := by decide +kernel
theorem qlk_52 : xe_look (xc 221) 52 = some (.aload_n 0, 1, 0, 0, 0) := by decide +kernel
theorem qlk_53 : xe_look (xc 221) 53 = some (.getfield 31, 3, 12, 9, 1166) := by decide +kernel
theorem qlk_56 : xe_look (xc 221) 56 = some (.iload_n 1, 1, 0, 0, 0) := by decide +kernel
theorem qlk_57 : xe_look (xc 221) 57 = some (.iload_n 3, 1, 0, 0, 0) := by decide +kernel
theorem qlk_58 : xe_look (xc 221) 58 = some (.iastore, 1, 0, 0, 0) := by decide +kernel
theorem qlk_59 : xe_look (xc 221) 59 = some (.iconst 1, 1, 0, 0, 0) := by decide +kernel
theorem qlk_60 : xe_look (xc 221) 60 = some (.ireturn, 1, 0, 0, 0) := by decide +kernel
theorem qsc_0 : xe_look (xc 144) 0 = some (.iload_n 1, 1, 0, 0, 0) := by decide +kernel
theorem qsc_1 : xe_look (xc 144) 1 = some (.iconst 0, 1, 0, 0, 0) := by decide +kernel
theorem qsc_2 : xe_look (xc 144) 2 = some (.ldc_w 397, 3, 0, 2147549183, 1073) := by decide +kernel
theorem qsc_5 : xe_look (xc 144) 5 = some (.invokestatic 89, 3, 0, 124, 994) := by decide +kernel
theorem qsc_8 : xe_look (xc 144) 8 = some (.ifCond .ne 5, 3, 0, 0, 0) := by decide +kernel
theorem qsc_11 : xe_look (xc 144) 11 = some (.iconst 0, 1, 0, 0, 0) := by decide +kernel
theorem qsc_12 : xe_look (xc 144) 12 = some (.ireturn, 1, 0, 0, 0) := by decide +kernel
theorem qsc_13 : xe_look (xc 144) 13 = some (.aload_n 0, 1, 0, 0, 0) := by decide +kernel
theorem qsc_14 : xe_look (xc 144) 14 = some (.getfield 16, 3, 11, 2, 983) := by decide +kernel
theorem qsc_17 : xe_look (xc 144) 17 = some (.iload_n 1, 1, 0, 0, 0) := by decide +kernel
theorem qsc_18 : xe_look (xc 144) 18 = some (.putfield 388, 3, 8, 7, 1006) := by decide +kernel
theorem qsc_21 : xe_look (xc 144) 21 = some (.iconst 1, 1, 0, 0, 0) := by decide +kernel
theorem qsc_22 : xe_look (xc 144) 22 = some (.ireturn, 1, 0, 0, 0) := by decide +kernel
theorem qsd_0 : xe_look (xc 245) 0 = some (.iload_n 1, 1, 0, 0, 0) := by decide +kernel
theorem qsd_1 : xe_look (xc 245) 1 = some (.iconst 0, 1, 0, 0, 0) := by decide +kernel
theorem qsd_2 : xe_look (xc 245) 2 = some (.ldc_w 515, 3, 0, 2147549183, 1277) := by decide +kernel
theorem qsd_5 : xe_look (xc 245) 5 = some (.invokestatic 201, 3, 0, 199, 1131) := by decide +kernel
theorem qsd_8 : xe_look (xc 245) 8 = some (.ifCond .ne 5, 3, 0, 0, 0) := by decide +kernel
theorem qsd_11 : xe_look (xc 245) 11 = some (.iconst 0, 1, 0, 0, 0) := by decide +kernel
theorem qsd_12 : xe_look (xc 245) 12 = some (.ireturn, 1, 0, 0, 0) := by decide +kernel
theorem qsd_13 : xe_look (xc 245) 13 = some (.aload_n 0, 1, 0, 0, 0) := by decide +kernel
theorem qsd_14 : xe_look (xc 245) 14 = some (.getfield 7, 3, 12, 2, 1133) := by decide +kernel
theorem qsd_17 : xe_look (xc 245) 17 = some (.bipush 41, 2, 0, 0, 0) := by decide +kernel
theorem qsd_19 : xe_look (xc 245) 19 = some (.iload_n 1, 1, 0, 0, 0) := by decide +kernel
theorem qsd_20 : xe_look (xc 245) 20 = some (.iastore, 1, 0, 0, 0) := by decide +kernel
theorem qsd_21 : xe_look (xc 245) 21 = some (.iconst 1, 1, 0, 0, 0) := by decide +kernel
theorem qsd_22 : xe_look (xc 245) 22 = some (.ireturn, 1, 0, 0, 0) := by decide +kernel
theorem gq2_197 : eG (cn 197) = ((-2147483648), 2147483647, []) := by decide +kernel
theorem gf_1 : eG (cn 196 + 1) = (0, 255, []) := by decide +kernel
theorem ga_203 : eG (cn 203) = (0, 9, []) := by decide +kernel
theorem ga_204 : eG (cn 204) = (0, 9999, []) := by decide +kernel
theorem or_b {x l : Int} (hx : 0 ≤ x ∧ x ≤ 255) (hl : 0 ≤ l ∧ l ≤ 7) : 0 ≤ (Int32.ofInt x ||| (Int32.ofInt 1 <<< (Int32.ofInt l &&& 31))).toInt ∧ (Int32.ofInt x ||| (Int32.ofInt 1 <<< (Int32.ofInt l &&& 31))).toInt ≤ 255 := by
  have h : ∀ i, i < 256 → ∀ j, j < 8 → 0 ≤ (Int32.ofInt (i : Nat) ||| (Int32.ofInt 1 <<< (Int32.ofInt (j : Nat) &&& 31))).toInt ∧ (Int32.ofInt (i : Nat) ||| (Int32.ofInt 1 <<< (Int32.ofInt (j : Nat) &&& 31))).toInt ≤ 255 := by decide +kernel
  have := h x.toNat (by omega) l.toNat (by omega)
  rw [Int.toNat_of_nonneg hx.1, Int.toNat_of_nonneg hl.1] at this
  exact this
def lookerF (x y z : Int32) : Int := if (0 ≤ x.toInt ∧ x.toInt ≤ 7) ∧ (0 ≤ y.toInt ∧ y.toInt ≤ 9) ∧ (0 ≤ z.toInt ∧ z.toInt ≤ 9999) then 1 else 0
def Wlk : Nat := 2 ^ (cn 196 + 1) + 2 ^ cn 203 + 2 ^ cn 204
theorem Wlk_1 : Wlk.testBit (cn 196 + 1) = true ∧ Wlk.testBit (cn 203) = true ∧ Wlk.testBit (cn 204) = true ∧ Wlk &&& eDX = 0 := by decide +kernel
set_option maxHeartbeats 4000000 in
theorem lk_run {d : Nat} (hd : 1 ≤ d) {g : pH} (hG : g_I eG g) {a b c : Int} (ha : -2147483648 ≤ a ∧ a ≤ 2147483647) (hb : -2147483648 ≤ b ∧ b ≤ 2147483647) (hc : -2147483648 ≤ c ∧ c ≤ 2147483647) {P : Option pv × pH → Prop} (h1 : ∀ g1 : pH, J_ Wlk g g1 → (0 ≤ a ∧ a ≤ 7) ∧ (0 ≤ b ∧ b ≤ 9) ∧ (0 ≤ c ∧ c ≤ 9999) → P (some (oI 1), g1)) (h0 : ∀ g1 : pH, J_ Wlk g g1 → ¬ ((0 ≤ a ∧ a ≤ 7) ∧ (0 ≤ b ∧ b ≤ 9) ∧ (0 ≤ c ∧ c ≤ 9999)) → P (some (oI 0), g1)) {lv : List (Nat × pv)} (l0 : px_lg lv 0 = some (pvR 196)) (l1 : px_lg lv 1 = some (oI a)) (l2 : px_lg lv 2 = some (oI b)) (l3 : px_lg lv 3 = some (oI c)) : t_X d 221 0 lv [] g P := by
  obtain ⟨w_1, w_a203, w_a204, -⟩ := Wlk_1
  have hJ0 : J_ Wlk g g := J_rf hG
  refine t_0 qlk_0 rfl (ld_i l1) ?_
  refine t_0 qlk_1 rfl rfl ?_
  refine t_0 qlk_2 rfl (pq_b (by decide)) ?_
  refine t_3 qlk_4 rfl (ar := ([oI (a), oI (0), oI (7)], [])) (pcal_s ⟨Or.inl rfl, rfl, Nat.le_of_ble_eq_true rfl⟩) ⟨by omega, Nat.le_of_ble_eq_true rfl, Nat.le_of_ble_eq_true rfl, rfl⟩ ?_
  refine in_run ⟨by omega, by omega⟩ ⟨by omega, by omega⟩ ⟨by omega, by omega⟩ rfl rfl rfl (fun t1 => ?_) (fun t1 => ?_)
  · show t_X d 221 7 lv [oI (1)] g P
    refine tz_eq qlk_7 (by decide) ⟨by omega, by omega⟩ (fun c2 => absurd c2 (by omega)) (fun c2 => ?_)
    show t_X d 221 10 lv [] g P
    refine t_0 qlk_10 rfl (ld_i l2) ?_
    refine t_0 qlk_11 rfl rfl ?_
    refine t_0 qlk_12 rfl (pq_b (by decide)) ?_
    refine t_3 qlk_14 rfl (ar := ([oI (b), oI (0), oI (9)], [])) (pcal_s ⟨Or.inl rfl, rfl, Nat.le_of_ble_eq_true rfl⟩) ⟨by omega, Nat.le_of_ble_eq_true rfl, Nat.le_of_ble_eq_true rfl, rfl⟩ ?_
    refine in_run ⟨by omega, by omega⟩ ⟨by omega, by omega⟩ ⟨by omega, by omega⟩ rfl rfl rfl (fun t3 => ?_) (fun t3 => ?_)
    · show t_X d 221 17 lv [oI (1)] g P
      refine tz_eq qlk_17 (by decide) ⟨by omega, by omega⟩ (fun c4 => absurd c4 (by omega)) (fun c4 => ?_)
      show t_X d 221 20 lv [] g P
      refine t_0 qlk_20 rfl (ld_i l3) ?_
      refine t_0 qlk_21 rfl rfl ?_
      refine t_0 qlk_22 rfl (pq_s (by decide)) ?_
      refine t_3 qlk_25 rfl (ar := ([oI (c), oI (0), oI (9999)], [])) (pcal_s ⟨Or.inl rfl, rfl, Nat.le_of_ble_eq_true rfl⟩) ⟨by omega, Nat.le_of_ble_eq_true rfl, Nat.le_of_ble_eq_true rfl, rfl⟩ ?_
      refine in_run ⟨by omega, by omega⟩ ⟨by omega, by omega⟩ ⟨by omega, by omega⟩ rfl rfl rfl (fun t5 => ?_) (fun t5 => ?_)
      · show t_X d 221 28 lv [oI (1)] g P
        refine tz_ne qlk_28 (by decide) ⟨by omega, by omega⟩ (fun c6 => ?_) (fun c6 => absurd c6 (by omega))
        show t_X d 221 33 lv [] g P
        refine t_0 qlk_33 rfl (ld_a l0) ?_
        refine t_0 qlk_34 rfl (ld_a l0) ?_
        have r7 := gb_f hJ0.1 (y := 1) rfl rfl gf_1
        refine t_0 qlk_35 rfl (pq_gf (y := 1) rfl) ?_
        refine t_0 qlk_38 rfl rfl ?_
        refine t_0 qlk_39 rfl (ld_i l1) ?_
        refine t_0 qlk_40 rfl rfl ?_
        refine t_0 qlk_41 rfl rfl ?_
        show t_X d 221 42 lv [.inl ((Int32.ofInt (fF g 1)) ||| ((Int32.ofInt (1)) <<< ((Int32.ofInt (a)) &&& 31))), pvR 196] g P
        have hor := or_b (x := fF g 1) (l := a) (by omega) (by omega)
        rw [oI_r (Int32.ofInt (fF g 1) ||| (Int32.ofInt 1 <<< (Int32.ofInt a &&& 31)))]
        generalize (Int32.ofInt (fF g 1) ||| (Int32.ofInt 1 <<< (Int32.ofInt a &&& 31))).toInt = y at hor ⊢
        show t_X d 221 42 lv [oI (y), pvR 196] g P
        refine tw_f qlk_42 rfl hJ0 w_1 gf_1 (by decide) ⟨by omega, by omega⟩ (fun g8 hJ8 v8 f8 a8 => ?_)
        replace a8 := fA_2 a8
        show t_X d 221 45 lv [] g8 P
        refine t_0 qlk_45 rfl (ld_a l0) ?_
        refine t_0 qlk_46 rfl (ar_8 hJ8.1) ?_
        refine t_0 qlk_49 rfl (ld_i l1) ?_
        refine t_0 qlk_50 rfl (ld_i l2) ?_
        refine tw_a qlk_51 hJ8 el_203 rfl w_a203 ga_203 (by decide) ⟨by omega, by omega⟩ ⟨by omega, by omega⟩ (fun g9 hJ9 a9 v9 b9 f9 => ?_)
        replace f9 := fF_1 f9
        show t_X d 221 52 lv [] g9 P
        refine t_0 qlk_52 rfl (ld_a l0) ?_
        refine t_0 qlk_53 rfl (ar_9 hJ9.1) ?_
        refine t_0 qlk_56 rfl (ld_i l1) ?_
        refine t_0 qlk_57 rfl (ld_i l3) ?_
        refine tw_a qlk_58 hJ9 el_204 rfl w_a204 ga_204 (by decide) ⟨by omega, by omega⟩ ⟨by omega, by omega⟩ (fun g10 hJ10 a10 v10 b10 f10 => ?_)
        replace f10 := fF_1 f10
        show t_X d 221 59 lv [] g10 P
        refine t_0 qlk_59 rfl rfl ?_
        refine t_5 qlk_60 rfl rfl ?_
        exact h1 _ hJ10 (by omega)
      · show t_X d 221 28 lv [oI (0)] g P
        refine tz_ne qlk_28 (by decide) ⟨by omega, by omega⟩ (fun c11 => absurd c11 (by omega)) (fun c11 => ?_)
        show t_X d 221 31 lv [] g P
        refine t_0 qlk_31 rfl rfl ?_
        refine t_5 qlk_32 rfl rfl ?_
        exact h0 _ hJ0 (by omega)
    · show t_X d 221 17 lv [oI (0)] g P
      refine tz_eq qlk_17 (by decide) ⟨by omega, by omega⟩ (fun c12 => ?_) (fun c12 => absurd c12 (by omega))
      show t_X d 221 31 lv [] g P
      refine t_0 qlk_31 rfl rfl ?_
      refine t_5 qlk_32 rfl rfl ?_
      exact h0 _ hJ0 (by omega)
  · show t_X d 221 7 lv [oI (0)] g P
    refine tz_eq qlk_7 (by decide) ⟨by omega, by omega⟩ (fun c13 => ?_) (fun c13 => absurd c13 (by omega))
    show t_X d 221 31 lv [] g P
    refine t_0 qlk_31 rfl rfl ?_
    refine t_5 qlk_32 rfl rfl ?_
    exact h0 _ hJ0 (by omega)
theorem looker_m {g : pH} (hG : g_I eG g) (hx : xL g) {x y z : Int32} {P : Option pv × pH → Prop} (hP : ∀ g1 : pH, g_I eG g1 → xL g1 → P (some (oI (lookerF x y z)), g1)) : t_X (100 - 1) 221 0 (px_ar 0 [pvR 196, .inl x, .inl y, .inl z]) [] g P := by
  unfold lookerF at hP
  refine lk_run (by decide) hG (a := x.toInt) (b := y.toInt) (c := z.toInt) (i32_b x) (i32_b y) (i32_b z) (fun g1 J h => ?_) (fun g1 J h => ?_) rfl (congrArg some (oI_r x)) (congrArg some (oI_r y)) (congrArg some (oI_r z))
  · rw [if_pos h] at hP
    exact hP g1 J.1 (xL_K _ _ _ J.2 Wlk_1.2.2.2 hx)
  · rw [if_neg h] at hP
    exact hP g1 J.1 (xL_K _ _ _ J.2 Wlk_1.2.2.2 hx)
theorem gk_1 : eG (cn 2 + 1) = (0, 255, []) := by decide +kernel
theorem gk_2 : (eG (cn 2 + 2)).2.2 = [69] := by decide +kernel
theorem gk_3 : (eG (cn 2 + 3)).2.2 = [70] := by decide +kernel
theorem gk_68 : eG (cn 68) = (0, 9, []) := by decide +kernel
theorem gk_69 : eG (cn 69) = (0, 9999, []) := by decide +kernel
theorem el_68 : eL[68]? = some (1, 8) := by decide +kernel
theorem el_69 : eL[69]? = some (1, 8) := by decide +kernel
def Wck : Nat := 2 ^ (cn 2 + 1) + 2 ^ cn 68 + 2 ^ cn 69
theorem Wck_1 : Wck.testBit (cn 2 + 1) = true ∧ Wck.testBit (cn 68) = true ∧ Wck.testBit (cn 69) = true ∧ Wck &&& eDX = 0 := by decide +kernel
set_option maxHeartbeats 4000000 in
theorem lkc_run {d : Nat} (hd : 1 ≤ d) {g : pH} (hG : g_I eG g) {a b c : Int} (ha : -2147483648 ≤ a ∧ a ≤ 2147483647) (hb : -2147483648 ≤ b ∧ b ≤ 2147483647) (hc : -2147483648 ≤ c ∧ c ≤ 2147483647) {P : Option pv × pH → Prop} (h1 : ∀ g1 : pH, J_ Wck g g1 → (0 ≤ a ∧ a ≤ 7) ∧ (0 ≤ b ∧ b ≤ 9) ∧ (0 ≤ c ∧ c ≤ 9999) → P (some (oI 1), g1)) (h0 : ∀ g1 : pH, J_ Wck g g1 → ¬ ((0 ≤ a ∧ a ≤ 7) ∧ (0 ≤ b ∧ b ≤ 9) ∧ (0 ≤ c ∧ c ≤ 9999)) → P (some (oI 0), g1)) {lv : List (Nat × pv)} (l0 : px_lg lv 0 = some (pvR 0)) (l1 : px_lg lv 1 = some (oI a)) (l2 : px_lg lv 2 = some (oI b)) (l3 : px_lg lv 3 = some (oI c)) : t_X d 134 0 lv [] g P := by
  refine t_0 qlc7_0 rfl (ld_i l1) ?_
  refine t_0 qlc7_1 rfl rfl ?_
  refine t_0 qlc7_2 rfl (pq_b (by decide)) ?_
  refine t_3 qlc7_4 rfl (ar := ([oI (a), oI (0), oI (7)], [])) (pcal_s ⟨Or.inl rfl, rfl, Nat.le_of_ble_eq_true rfl⟩) ⟨by omega, Nat.le_of_ble_eq_true rfl, Nat.le_of_ble_eq_true rfl, rfl⟩ ?_
  refine ii_run ⟨by omega, by omega⟩ ⟨by omega, by omega⟩ ⟨by omega, by omega⟩ rfl rfl rfl (fun t1 => ?_) (fun t1 => ?_)
  · show t_X d 134 7 lv [oI (1)] g P
    refine tz_eq qlc7_7 (by decide) ⟨by omega, by omega⟩ (fun c2 => absurd c2 (by omega)) (fun c2 => ?_)
    show t_X d 134 10 lv [] g P
    refine t_0 qlc7_10 rfl (ld_i l2) ?_
    refine t_0 qlc7_11 rfl rfl ?_
    refine t_0 qlc7_12 rfl (pq_b (by decide)) ?_
    refine t_3 qlc7_14 rfl (ar := ([oI (b), oI (0), oI (9)], [])) (pcal_s ⟨Or.inl rfl, rfl, Nat.le_of_ble_eq_true rfl⟩) ⟨by omega, Nat.le_of_ble_eq_true rfl, Nat.le_of_ble_eq_true rfl, rfl⟩ ?_
    refine ii_run ⟨by omega, by omega⟩ ⟨by omega, by omega⟩ ⟨by omega, by omega⟩ rfl rfl rfl (fun t3 => ?_) (fun t3 => ?_)
    · show t_X d 134 17 lv [oI (1)] g P
      refine tz_eq qlc7_17 (by decide) ⟨by omega, by omega⟩ (fun c4 => absurd c4 (by omega)) (fun c4 => ?_)
      show t_X d 134 20 lv [] g P
      refine t_0 qlc7_20 rfl (ld_i l3) ?_
      refine t_0 qlc7_21 rfl rfl ?_
      refine t_0 qlc7_22 rfl (pq_s (by decide)) ?_
      refine t_3 qlc7_25 rfl (ar := ([oI (c), oI (0), oI (9999)], [])) (pcal_s ⟨Or.inl rfl, rfl, Nat.le_of_ble_eq_true rfl⟩) ⟨by omega, Nat.le_of_ble_eq_true rfl, Nat.le_of_ble_eq_true rfl, rfl⟩ ?_
      refine ii_run ⟨by omega, by omega⟩ ⟨by omega, by omega⟩ ⟨by omega, by omega⟩ rfl rfl rfl (fun t5 => ?_) (fun t5 => ?_)
      · show t_X d 134 28 lv [oI (1)] g P
        refine tz_ne qlc7_28 (by decide) ⟨by omega, by omega⟩ (fun c6 => ?_) (fun c6 => absurd c6 (by omega))
        show t_X d 134 33 lv [] g P
        refine t_0 qlc7_33 rfl (ld_a l0) ?_
        refine t_0 qlc7_34 rfl (pget el_0 (gI_o (r := 2) hG el_0 (Nat.le_of_ble_eq_true rfl) (y := 2) rfl gc_0)) ?_
        refine t_0 qlc7_37 rfl rfl ?_
        refine t_0 qlc7_38 rfl (pget el_2 (pFi rfl)) ?_
        refine t_0 qlc7_41 rfl rfl ?_
        refine t_0 qlc7_42 rfl (ld_i l1) ?_
        refine t_0 qlc7_43 rfl rfl ?_
        refine t_0 qlc7_44 rfl rfl ?_
        show t_X d 134 45 lv [.inl (g.1 2 1 ||| (Int32.ofInt 1 <<< (Int32.ofInt a &&& 31))), pvR 2] g P
        have hb1 := gI_i hG el_2 (y := 1) (Nat.le_of_ble_eq_true rfl) rfl
        rw [gk_1] at hb1
        have hor := or_b (x := (g.1 2 1).toInt) (l := a) ⟨hb1.1, hb1.2.1⟩ (by omega)
        rw [Int32.ofInt_toInt] at hor
        refine t_4 qlc7_45 rfl (pputi el_2 rfl) ?_
        have hJ1 := J_puti (n := g.1 2 1 ||| (Int32.ofInt 1 <<< (Int32.ofInt a &&& 31))) (W := Wck) (J_rf hG) el_2 (x := 8) (y := 1) rfl Wck_1.1 (by rw [gk_1]; exact ⟨hor.1, hor.2, Or.inl rfl⟩)
        generalize (pu g.1 2 1 (g.1 2 1 ||| (Int32.ofInt 1 <<< (Int32.ofInt a &&& 31))), g.2) = g1 at hJ1 ⊢
        show t_X d 134 48 lv [] g1 P
        refine t_0 qlc7_48 rfl (ld_a l0) ?_
        refine t_0 qlc7_49 rfl (pget el_0 (gI_o (r := 2) hJ1.1 el_0 (Nat.le_of_ble_eq_true rfl) (y := 2) rfl gc_0)) ?_
        refine t_0 qlc7_52 rfl (pget el_2 (gI_r (r := 68) hJ1.1 el_2 (Nat.le_of_ble_eq_true rfl) (y := 2) rfl gk_2)) ?_
        refine t_0 qlc7_55 rfl (ld_i l1) ?_
        refine t_0 qlc7_56 rfl (ld_i l2) ?_
        refine tw_a qlc7_57 hJ1 el_68 rfl Wck_1.2.1 gk_68 (by decide) ⟨by omega, by omega⟩ ⟨by omega, by omega⟩ (fun g2 hJ2 _ _ _ _ => ?_)
        show t_X d 134 58 lv [] g2 P
        refine t_0 qlc7_58 rfl (ld_a l0) ?_
        refine t_0 qlc7_59 rfl (pget el_0 (gI_o (r := 2) hJ2.1 el_0 (Nat.le_of_ble_eq_true rfl) (y := 2) rfl gc_0)) ?_
        refine t_0 qlc7_62 rfl (pget el_2 (gI_r (r := 69) hJ2.1 el_2 (Nat.le_of_ble_eq_true rfl) (y := 3) rfl gk_3)) ?_
        refine t_0 qlc7_65 rfl (ld_i l1) ?_
        refine t_0 qlc7_66 rfl (ld_i l3) ?_
        refine tw_a qlc7_67 hJ2 el_69 rfl Wck_1.2.2.1 gk_69 (by decide) ⟨by omega, by omega⟩ ⟨by omega, by omega⟩ (fun g3 hJ3 _ _ _ _ => ?_)
        show t_X d 134 68 lv [] g3 P
        refine t_0 qlc7_68 rfl rfl ?_
        refine t_5 qlc7_69 rfl rfl ?_
        exact h1 _ hJ3 (by omega)
      · show t_X d 134 28 lv [oI (0)] g P
        refine tz_ne qlc7_28 (by decide) ⟨by omega, by omega⟩ (fun c7 => absurd c7 (by omega)) (fun c7 => ?_)
        show t_X d 134 31 lv [] g P
        refine t_0 qlc7_31 rfl rfl ?_
        refine t_5 qlc7_32 rfl rfl ?_
        exact h0 _ (J_rf hG) (by omega)
    · show t_X d 134 17 lv [oI (0)] g P
      refine tz_eq qlc7_17 (by decide) ⟨by omega, by omega⟩ (fun c8 => ?_) (fun c8 => absurd c8 (by omega))
      show t_X d 134 31 lv [] g P
      refine t_0 qlc7_31 rfl rfl ?_
      refine t_5 qlc7_32 rfl rfl ?_
      exact h0 _ (J_rf hG) (by omega)
  · show t_X d 134 7 lv [oI (0)] g P
    refine tz_eq qlc7_7 (by decide) ⟨by omega, by omega⟩ (fun c9 => ?_) (fun c9 => absurd c9 (by omega))
    show t_X d 134 31 lv [] g P
    refine t_0 qlc7_31 rfl rfl ?_
    refine t_5 qlc7_32 rfl rfl ?_
    exact h0 _ (J_rf hG) (by omega)
theorem looker_c {g : pH} (hG : g_I eG g) (hx : xL g) {x y z : Int32} {P : Option pv × pH → Prop} (hP : ∀ g1 : pH, g_I eG g1 → xL g1 → P (some (oI (lookerF x y z)), g1)) : t_X (100 - 1) 134 0 (px_ar 0 [pvR 0, .inl x, .inl y, .inl z]) [] g P := by
  unfold lookerF at hP
  refine lkc_run (by decide) hG (a := x.toInt) (b := y.toInt) (c := z.toInt) (i32_b x) (i32_b y) (i32_b z) (fun g1 J h => ?_) (fun g1 J h => ?_) rfl (congrArg some (oI_r x)) (congrArg some (oI_r y)) (congrArg some (oI_r z))
  · rw [if_pos h] at hP
    exact hP g1 J.1 (xL_K _ _ _ J.2 Wck_1.2.2.2 hx)
  · rw [if_neg h] at hP
    exact hP g1 J.1 (xL_K _ _ _ J.2 Wck_1.2.2.2 hx)
def seedF (x : Int32) : Int := if 0 ≤ x.toInt ∧ x.toInt ≤ 65535 then 1 else 0
def Wsd : Nat := 2 ^ cn 197
theorem Wsd_1 : Wsd.testBit (cn 197) = true ∧ Wsd &&& eDX = 0 := by decide +kernel
theorem sd_run {d : Nat} (hd : 1 ≤ d) {g : pH} (hG : g_I eG g) {a : Int} (ha : -2147483648 ≤ a ∧ a ≤ 2147483647) {P : Option pv × pH → Prop} (h1 : ∀ g1 : pH, J_ Wsd g g1 → 0 ≤ a ∧ a ≤ 65535 → P (some (oI 1), g1)) (h0 : ∀ g1 : pH, J_ Wsd g g1 → ¬ (0 ≤ a ∧ a ≤ 65535) → P (some (oI 0), g1)) {lv : List (Nat × pv)} (l0 : px_lg lv 0 = some (pvR 196)) (l1 : px_lg lv 1 = some (oI a)) : t_X d 245 0 lv [] g P := by
  have w_a197 := Wsd_1.1
  have hJ0 : J_ Wsd g g := J_rf hG
  refine t_0 qsd_0 rfl (ld_i l1) ?_
  refine t_0 qsd_1 rfl rfl ?_
  refine t_0 qsd_2 rfl (pq_cw (n := 65535) (by decide +kernel)) ?_
  refine t_3 qsd_5 rfl (ar := ([oI (a), oI (0), oI (65535)], [])) (pcal_s ⟨Or.inl rfl, rfl, Nat.le_of_ble_eq_true rfl⟩) ⟨by omega, Nat.le_of_ble_eq_true rfl, Nat.le_of_ble_eq_true rfl, rfl⟩ ?_
  refine in_run ⟨by omega, by omega⟩ ⟨by omega, by omega⟩ ⟨by omega, by omega⟩ rfl rfl rfl (fun t1 => ?_) (fun t1 => ?_)
  · show t_X d 245 8 lv [oI (1)] g P
    refine tz_ne qsd_8 (by decide) ⟨by omega, by omega⟩ (fun c2 => ?_) (fun c2 => absurd c2 (by omega))
    show t_X d 245 13 lv [] g P
    refine t_0 qsd_13 rfl (ld_a l0) ?_
    refine t_0 qsd_14 rfl (ar_2 hJ0.1) ?_
    refine t_0 qsd_17 rfl (pq_b (by decide)) ?_
    refine t_0 qsd_19 rfl (ld_i l1) ?_
    refine tw_a qsd_20 hJ0 el_197 rfl w_a197 gq2_197 (by decide) ⟨by omega, by omega⟩ ⟨by omega, by omega⟩ (fun g3 hJ3 a3 v3 b3 f3 => ?_)
    replace f3 := fF_1 f3
    show t_X d 245 21 lv [] g3 P
    refine t_0 qsd_21 rfl rfl ?_
    refine t_5 qsd_22 rfl rfl ?_
    exact h1 _ hJ3 (by omega)
  · show t_X d 245 8 lv [oI (0)] g P
    refine tz_ne qsd_8 (by decide) ⟨by omega, by omega⟩ (fun c4 => absurd c4 (by omega)) (fun c4 => ?_)
    show t_X d 245 11 lv [] g P
    refine t_0 qsd_11 rfl rfl ?_
    refine t_5 qsd_12 rfl rfl ?_
    exact h0 _ hJ0 (by omega)
theorem seed_m {g : pH} (hG : g_I eG g) (hx : xL g) {x : Int32} {P : Option pv × pH → Prop} (hP : ∀ g1 : pH, g_I eG g1 → xL g1 → P (some (oI (seedF x)), g1)) : t_X (100 - 1) 245 0 (px_ar 0 [pvR 196, .inl x]) [] g P := by
  unfold seedF at hP
  refine sd_run (by decide) hG (a := x.toInt) (i32_b x) (fun g1 J h => ?_) (fun g1 J h => ?_) rfl (congrArg some (oI_r x))
  · rw [if_pos h] at hP
    exact hP g1 J.1 (xL_K _ _ _ J.2 Wsd_1.2 hx)
  · rw [if_neg h] at hP
    exact hP g1 J.1 (xL_K _ _ _ J.2 Wsd_1.2 hx)
theorem gs_1 : eG (cn 2 + 7) = (0, 65535, []) := by decide +kernel
theorem gs_2 : (2 ^ (cn 2 + 7)).testBit (cn 2 + 7) = true ∧ (2 ^ (cn 2 + 7)) &&& eDX = 0 := by decide +kernel
theorem sdc_run {d : Nat} (hd : 1 ≤ d) {g : pH} (hG : g_I eG g) {a : Int} (ha : -2147483648 ≤ a ∧ a ≤ 2147483647) {P : Option pv × pH → Prop} (h1 : ∀ g1 : pH, J_ (2 ^ (cn 2 + 7)) g g1 → 0 ≤ a ∧ a ≤ 65535 → P (some (oI 1), g1)) (h0 : ∀ g1 : pH, J_ (2 ^ (cn 2 + 7)) g g1 → ¬ (0 ≤ a ∧ a ≤ 65535) → P (some (oI 0), g1)) {lv : List (Nat × pv)} (l0 : px_lg lv 0 = some (pvR 0)) (l1 : px_lg lv 1 = some (oI a)) : t_X d 144 0 lv [] g P := by
  refine t_0 qsc_0 rfl (ld_i l1) ?_
  refine t_0 qsc_1 rfl rfl ?_
  refine t_0 qsc_2 rfl (pq_cw (n := 65535) (by decide +kernel)) ?_
  refine t_3 qsc_5 rfl (ar := ([oI (a), oI (0), oI (65535)], [])) (pcal_s ⟨Or.inl rfl, rfl, Nat.le_of_ble_eq_true rfl⟩) ⟨by omega, Nat.le_of_ble_eq_true rfl, Nat.le_of_ble_eq_true rfl, rfl⟩ ?_
  refine ii_run ⟨by omega, by omega⟩ ⟨by omega, by omega⟩ ⟨by omega, by omega⟩ rfl rfl rfl (fun t1 => ?_) (fun t1 => ?_)
  · show t_X d 144 8 lv [oI (1)] g P
    refine tz_ne qsc_8 (by decide) ⟨by omega, by omega⟩ (fun c2 => ?_) (fun c2 => absurd c2 (by omega))
    show t_X d 144 13 lv [] g P
    refine t_0 qsc_13 rfl (ld_a l0) ?_
    refine t_0 qsc_14 rfl (pget el_0 (gI_o (r := 2) hG el_0 (Nat.le_of_ble_eq_true rfl) (y := 2) rfl gc_0)) ?_
    refine t_0 qsc_17 rfl (ld_i l1) ?_
    refine t_4 qsc_18 rfl (pputi el_2 rfl) ?_
    have hJ := J_puti (n := Int32.ofInt a) (W := 2 ^ (cn 2 + 7)) (J_rf hG) el_2 (x := 8) (y := 7) rfl gs_2.1 (by rw [gs_1, oT ha.1 ha.2]; exact ⟨by show 0 ≤ a; omega, by show a ≤ 65535; omega, Or.inl rfl⟩)
    show t_X d 144 21 lv [] (pu g.1 2 7 (Int32.ofInt a), g.2) P
    refine t_0 qsc_21 rfl rfl ?_
    refine t_5 qsc_22 rfl rfl ?_
    exact h1 _ hJ (by omega)
  · show t_X d 144 8 lv [oI (0)] g P
    refine tz_ne qsc_8 (by decide) ⟨by omega, by omega⟩ (fun c3 => absurd c3 (by omega)) (fun c3 => ?_)
    show t_X d 144 11 lv [] g P
    refine t_0 qsc_11 rfl rfl ?_
    refine t_5 qsc_12 rfl rfl ?_
    exact h0 _ (J_rf hG) (by omega)
theorem seed_c {g : pH} (hG : g_I eG g) (hx : xL g) {x : Int32} {P : Option pv × pH → Prop} (hP : ∀ g1 : pH, g_I eG g1 → xL g1 → P (some (oI (seedF x)), g1)) : t_X (100 - 1) 144 0 (px_ar 0 [pvR 0, .inl x]) [] g P := by
  unfold seedF at hP
  refine sdc_run (by decide) hG (a := x.toInt) (i32_b x) (fun g1 J h => ?_) (fun g1 J h => ?_) rfl (congrArg some (oI_r x))
  · rw [if_pos h] at hP
    exact hP g1 J.1 (xL_K _ _ _ J.2 gs_2.2 hx)
  · rw [if_neg h] at hP
    exact hP g1 J.1 (xL_K _ _ _ J.2 gs_2.2 hx)
