/-! the tie: ops that read the tape, as pairs (printed by wip/e2/t9.py) -/
theorem toC_e {W : Nat} {g g1 : pH} (hM : f_M W g g1) (hW : W &&& mR1 = 0) {i : Int} : toC g i ↔ toC g1 i := by
  constructor
  · rintro ⟨m, h1, h2, h3⟩
    exact ⟨m, h1, h2, by rw [cF_M hM (mx_f hW (mR1_b.2.2.2.2.2.2.2.2.1 m h1))]; exact h3⟩
  · rintro ⟨m, h1, h2, h3⟩
    exact ⟨m, h1, h2, by rw [← cF_M hM (mx_f hW (mR1_b.2.2.2.2.2.2.2.2.1 m h1))]; exact h3⟩
theorem b1_ (c : Nat) : (2 ^ c).testBit c = true := Nat.testBit_two_pow_self
theorem mj_0 : kcty_a.2.2.2.1 &&& mR1 = 0 := by decide +kernel
theorem mj_1 : Wt &&& mR1 = 0 := by decide +kernel
theorem mj_2 : kcty_a.2.2.2.1 &&& 2 ^ (cn 196 + 17) = 0 := by decide +kernel
theorem mj_3 : Wt &&& 2 ^ (cn 0 + 1) = 0 := by decide +kernel
theorem pr_tray {g : pH} (hG : g_I eG g) (hx : xL g) (hR : R0 g) (x1 : Int32) : pr_ R0 157 264 [.inl x1] 0 false g := by
  unfold pr_
  have hl := hR.2
  refine cty_run (n := x1.toInt) (by decide) (by decide) hG hx (i32_b _) (fun v1 g1 G1 X1 M1 t1 z1 => ?_) (fun g1 G1 X1 M1 e1 z1 => ?_) rfl (congrArg some (oI_r x1))
  · have Q1 := R1_f M1 mj_0 hR.1
    have k1 : cF g1 196 17 = cF g 196 17 := cF_M M1 (mx_f mj_2 (b1_ _))
    have k3 : fF g1 17 = cF g 196 17 := k1
    refine ⟨_, rfl, rfl, ty9_run (n := x1.toInt) (by decide) G1 (i32_b _) (fun z2 g2 v2 J2 t2 => ?_) (fun z2 => ?_) rfl (congrArg some (oI_r x1))⟩
    · exact ⟨_, rfl, rfl, J2.1, xL_K _ _ _ J2.2 Wt_a.2.2.2.2 X1, ⟨R1_f J2.2 mj_1 Q1, by rw [cF_M J2.2 (mx_f mj_3 (b1_ _)), t1]; exact t2.symm⟩, fun z => by cases z⟩
    · exfalso; omega
  · have Q1 := R1_f M1 mj_0 hR.1
    have k1 : cF g1 196 17 = cF g 196 17 := cF_M M1 (mx_f mj_2 (b1_ _))
    have k3 : fF g1 17 = cF g 196 17 := k1
    refine ⟨_, rfl, rfl, ty9_run (n := x1.toInt) (by decide) G1 (i32_b _) (fun z2 g2 v2 J2 t2 => ?_) (fun z2 => ?_) rfl (congrArg some (oI_r x1))⟩
    · exfalso; omega
    · exact ⟨_, rfl, rfl, G1, X1, ⟨Q1, by rw [e1, e1]; exact hl⟩, fun z => by cases z⟩
theorem mj_4 : kclw_a.2.2.2.1 &&& mR1 = 0 := by decide +kernel
theorem mj_5 : WL &&& mR1 = 0 := by decide +kernel
theorem mj_6 : kclw_a.2.2.2.1 &&& 2 ^ (cn 196 + 17) = 0 := by decide +kernel
theorem mj_7 : WL &&& 2 ^ (cn 0 + 1) = 0 := by decide +kernel
theorem pr_law {g : pH} (hG : g_I eG g) (hx : xL g) (hR : R0 g) (x1 : Int32) : pr_ R0 129 213 [.inl x1] 0 false g := by
  unfold pr_
  have hl := hR.2
  refine clw_run (n := x1.toInt) (by decide) (by decide) hG hx (i32_b _) (fun v1 g1 G1 X1 M1 t1 z1 => ?_) (fun g1 G1 X1 M1 e1 z1 => ?_) rfl (congrArg some (oI_r x1))
  · have Q1 := R1_f M1 mj_4 hR.1
    have k1 : cF g1 196 17 = cF g 196 17 := cF_M M1 (mx_f mj_6 (b1_ _))
    have k3 : fF g1 17 = cF g 196 17 := k1
    refine ⟨_, rfl, rfl, lw9_run (n := x1.toInt) (by decide) G1 X1 (i32_b _) (fun z2 g2 v2 J2 X2 t2 => ?_) (fun z2 => ?_) rfl (congrArg some (oI_r x1))⟩
    · exact ⟨_, rfl, rfl, J2.1, X2, ⟨R1_f J2.2 mj_5 Q1, by rw [cF_M J2.2 (mx_f mj_7 (b1_ _)), t1]; exact t2.symm⟩, fun z => by cases z⟩
    · exfalso; omega
  · have Q1 := R1_f M1 mj_4 hR.1
    have k1 : cF g1 196 17 = cF g 196 17 := cF_M M1 (mx_f mj_6 (b1_ _))
    have k3 : fF g1 17 = cF g 196 17 := k1
    refine ⟨_, rfl, rfl, lw9_run (n := x1.toInt) (by decide) G1 X1 (i32_b _) (fun z2 g2 v2 J2 X2 t2 => ?_) (fun z2 => ?_) rfl (congrArg some (oI_r x1))⟩
    · exfalso; omega
    · exact ⟨_, rfl, rfl, G1, X1, ⟨Q1, by rw [e1, e1]; exact hl⟩, fun z => by cases z⟩
theorem mj_8 : kcsp_a.2.2.2.1 &&& mR1 = 0 := by decide +kernel
theorem mj_9 : Ws &&& mR1 = 0 := by decide +kernel
theorem mj_10 : kcsp_a.2.2.2.1 &&& 2 ^ (cn 196 + 17) = 0 := by decide +kernel
theorem mj_11 : Ws &&& 2 ^ (cn 0 + 1) = 0 := by decide +kernel
theorem pr_spilt {g : pH} (hG : g_I eG g) (hx : xL g) (hR : R0 g) (x1 x2 : Int32) : pr_ R0 149 254 [.inl x1, .inl x2] 1 false g := by
  unfold pr_
  have hl := hR.2
  refine csp_run (n := x1.toInt) (w := x2.toInt) (by decide) (by decide) hG hx (i32_b _) (i32_b _) (fun v1 g1 G1 X1 M1 t1 z1 => ?_) (fun v1 g1 G1 X1 M1 e1 z1 => ?_) rfl (congrArg some (oI_r x1)) (congrArg some (oI_r x2))
  · have Q1 := R1_f M1 mj_8 hR.1
    have k1 : cF g1 196 17 = cF g 196 17 := cF_M M1 (mx_f mj_10 (b1_ _))
    have k3 : fF g1 17 = cF g 196 17 := k1
    refine ⟨_, rfl, rfl, sp9_run (n := x1.toInt) (w := x2.toInt) (by decide) G1 (i32_b _) (i32_b _) (fun z2 g2 v2 J2 t2 => ?_) (fun v2 z2 => ?_) rfl (congrArg some (oI_r x1)) (congrArg some (oI_r x2))⟩
    · exact ⟨_, rfl, rfl, J2.1, xL_K _ _ _ J2.2 Ws_1.2.1 X1, ⟨R1_f J2.2 mj_9 Q1, by rw [cF_M J2.2 (mx_f mj_11 (b1_ _)), t1]; exact t2.symm⟩, fun z => by cases z⟩
    · exfalso; omega
  · have Q1 := R1_f M1 mj_8 hR.1
    have k1 : cF g1 196 17 = cF g 196 17 := cF_M M1 (mx_f mj_10 (b1_ _))
    have k3 : fF g1 17 = cF g 196 17 := k1
    refine ⟨_, rfl, rfl, sp9_run (n := x1.toInt) (w := x2.toInt) (by decide) G1 (i32_b _) (i32_b _) (fun z2 g2 v2 J2 t2 => ?_) (fun v2 z2 => ?_) rfl (congrArg some (oI_r x1)) (congrArg some (oI_r x2))⟩
    · exfalso; omega
    · exact ⟨_, rfl, rfl, G1, X1, ⟨Q1, by rw [e1, e1]; exact hl⟩, fun z => by cases z⟩
theorem mj_12 : kcsy_a.2.2.2.1 &&& mR1 = 0 := by decide +kernel
theorem mj_13 : kcsy_a.2.2.2.1 &&& 2 ^ (cn 196 + 17) = 0 := by decide +kernel
theorem pr_says {g : pH} (hG : g_I eG g) (hx : xL g) (hR : R0 g) (x1 x2 x3 x4 : Int32) : pr_ R0 142 243 [.inl x1, .inl x2, .inl x3, .inl x4] 1 false g := by
  unfold pr_
  have hl := hR.2
  refine csy_run (n := x1.toInt) (i := x2.toInt) (j := x3.toInt) (w := x4.toInt) (by decide) (by decide) hG hx (i32_b _) (i32_b _) (i32_b _) (i32_b _) (fun v1 g1 G1 X1 M1 t1 z1 => ?_) (fun v1 g1 G1 X1 M1 e1 z1 => ?_) rfl (congrArg some (oI_r x1)) (congrArg some (oI_r x2)) (congrArg some (oI_r x3)) (congrArg some (oI_r x4))
  · have Q1 := R1_f M1 mj_12 hR.1
    have k1 : cF g1 196 17 = cF g 196 17 := cF_M M1 (mx_f mj_13 (b1_ _))
    have k3 : fF g1 17 = cF g 196 17 := k1
    refine ⟨_, rfl, rfl, sy9_run (n := x1.toInt) (i := x2.toInt) (j := x3.toInt) (w := x4.toInt) (by decide) G1 (i32_b _) (i32_b _) (i32_b _) (i32_b _) (fun z2 g2 v2 J2 t2 => ?_) (fun v2 z2 => ?_) rfl (congrArg some (oI_r x1)) (congrArg some (oI_r x2)) (congrArg some (oI_r x3)) (congrArg some (oI_r x4))⟩
    · exact ⟨_, rfl, rfl, J2.1, xL_K _ _ _ J2.2 Ws_1.2.1 X1, ⟨R1_f J2.2 mj_9 Q1, by rw [cF_M J2.2 (mx_f mj_11 (b1_ _)), t1]; exact t2.symm⟩, fun z => by cases z⟩
    · exfalso; omega
  · have Q1 := R1_f M1 mj_12 hR.1
    have k1 : cF g1 196 17 = cF g 196 17 := cF_M M1 (mx_f mj_13 (b1_ _))
    have k3 : fF g1 17 = cF g 196 17 := k1
    refine ⟨_, rfl, rfl, sy9_run (n := x1.toInt) (i := x2.toInt) (j := x3.toInt) (w := x4.toInt) (by decide) G1 (i32_b _) (i32_b _) (i32_b _) (i32_b _) (fun z2 g2 v2 J2 t2 => ?_) (fun v2 z2 => ?_) rfl (congrArg some (oI_r x1)) (congrArg some (oI_r x2)) (congrArg some (oI_r x3)) (congrArg some (oI_r x4))⟩
    · exfalso; omega
    · exact ⟨_, rfl, rfl, G1, X1, ⟨Q1, by rw [e1, e1]; exact hl⟩, fun z => by cases z⟩
theorem mj_14 : kcod_a.2.2.2.1 &&& mR1 = 0 := by decide +kernel
theorem mj_15 : kmod_a.2.2.2.1 &&& mR1 = 0 := by decide +kernel
theorem mj_16 : kcod_a.2.2.2.1 &&& 2 ^ (cn 196 + 17) = 0 := by decide +kernel
theorem mj_17 : kmod_a.2.2.2.1 &&& 2 ^ (cn 0 + 1) = 0 := by decide +kernel
theorem pr_odds {g : pH} (hG : g_I eG g) (hx : xL g) (hR : R0 g) (x1 x2 x3 x4 : Int32) : pr_ R0 137 228 [.inl x1, .inl x2, .inl x3, .inl x4] 0 false g := by
  unfold pr_
  have hl := hR.2
  refine cod_run (i := x1.toInt) (w := x2.toInt) (n := x3.toInt) (q := x4.toInt) (by decide) (by decide) hG hx hR.1.1 (i32_b _) (i32_b _) (i32_b _) (i32_b _) (fun v1 g1 G1 X1 M1 t1 z1 => ?_) (fun g1 G1 X1 M1 e1 z1 => ?_) rfl (congrArg some (oI_r x1)) (congrArg some (oI_r x2)) (congrArg some (oI_r x3)) (congrArg some (oI_r x4))
  · have Q1 := R1_f M1 mj_14 hR.1
    have k1 : cF g1 196 17 = cF g 196 17 := cF_M M1 (mx_f mj_16 (b1_ _))
    have k2 := (toC_e M1 mj_14 (i := x1.toInt)).trans (to_iff Q1)
    refine ⟨_, rfl, rfl, mod_run (i := x1.toInt) (w := x2.toInt) (n := x3.toInt) (q := x4.toInt) (by decide) (by decide) G1 X1 (i32_b _) (i32_b _) (i32_b _) (i32_b _) (fun v2 g2 G2 X2 M2 t2 z2 => ?_) (fun g2 G2 X2 M2 e2 z2 => ?_) rfl (congrArg some (oI_r x1)) (congrArg some (oI_r x2)) (congrArg some (oI_r x3)) (congrArg some (oI_r x4))⟩
    · exact ⟨_, rfl, rfl, G2, X2, ⟨R1_f M2 mj_15 Q1, by rw [cF_M M2 (mx_f mj_17 (b1_ _)), t1]; exact t2.symm⟩, fun z => by cases z⟩
    · exact absurd (show _ from ⟨k2.mp z1.1, by have z3 := z1.2; omega⟩) z2
  · have Q1 := R1_f M1 mj_14 hR.1
    have k1 : cF g1 196 17 = cF g 196 17 := cF_M M1 (mx_f mj_16 (b1_ _))
    have k2 := (toC_e M1 mj_14 (i := x1.toInt)).trans (to_iff Q1)
    refine ⟨_, rfl, rfl, mod_run (i := x1.toInt) (w := x2.toInt) (n := x3.toInt) (q := x4.toInt) (by decide) (by decide) G1 X1 (i32_b _) (i32_b _) (i32_b _) (i32_b _) (fun v2 g2 G2 X2 M2 t2 z2 => ?_) (fun g2 G2 X2 M2 e2 z2 => ?_) rfl (congrArg some (oI_r x1)) (congrArg some (oI_r x2)) (congrArg some (oI_r x3)) (congrArg some (oI_r x4))⟩
    · exact absurd (show _ from ⟨k2.mpr z2.1, by have z3 := z2.2; omega⟩) z1
    · exact ⟨_, rfl, rfl, G2, X2, ⟨R1_f M2 mj_15 Q1, by rw [e2, e2, e1, e1]; exact hl⟩, fun z => by cases z⟩
theorem mj_18 : kcch_a.2.2.2.1 &&& mR1 = 0 := by decide +kernel
theorem mj_19 : kmch_a.2.2.2.1 &&& mR1 = 0 := by decide +kernel
theorem mj_20 : kcch_a.2.2.2.1 &&& 2 ^ (cn 196 + 17) = 0 := by decide +kernel
theorem mj_21 : kmch_a.2.2.2.1 &&& 2 ^ (cn 0 + 1) = 0 := by decide +kernel
theorem pr_check {g : pH} (hG : g_I eG g) (hx : xL g) (hR : R0 g) (x1 x2 : Int32) : pr_ R0 110 174 [.inl x1, .inl x2] 0 false g := by
  unfold pr_
  have hl := hR.2
  refine cch_run (i := x1.toInt) (n := x2.toInt) (by decide) (by decide) hG hx hR.1.1 (i32_b _) (i32_b _) (fun v1 g1 G1 X1 M1 t1 z1 => ?_) (fun g1 G1 X1 M1 e1 z1 => ?_) rfl (congrArg some (oI_r x1)) (congrArg some (oI_r x2))
  · have Q1 := R1_f M1 mj_18 hR.1
    have k1 : cF g1 196 17 = cF g 196 17 := cF_M M1 (mx_f mj_20 (b1_ _))
    have k2 := (toC_e M1 mj_18 (i := x1.toInt)).trans (to_iff Q1)
    refine ⟨_, rfl, rfl, mch_run (i := x1.toInt) (n := x2.toInt) (by decide) (by decide) G1 X1 (i32_b _) (i32_b _) (fun v2 g2 G2 X2 M2 t2 z2 => ?_) (fun g2 G2 X2 M2 e2 z2 => ?_) rfl (congrArg some (oI_r x1)) (congrArg some (oI_r x2))⟩
    · exact ⟨_, rfl, rfl, G2, X2, ⟨R1_f M2 mj_19 Q1, by rw [cF_M M2 (mx_f mj_21 (b1_ _)), t1]; exact t2.symm⟩, fun z => by cases z⟩
    · exact absurd (show _ from ⟨k2.mp z1.1, by have z3 := z1.2; omega⟩) z2
  · have Q1 := R1_f M1 mj_18 hR.1
    have k1 : cF g1 196 17 = cF g 196 17 := cF_M M1 (mx_f mj_20 (b1_ _))
    have k2 := (toC_e M1 mj_18 (i := x1.toInt)).trans (to_iff Q1)
    refine ⟨_, rfl, rfl, mch_run (i := x1.toInt) (n := x2.toInt) (by decide) (by decide) G1 X1 (i32_b _) (i32_b _) (fun v2 g2 G2 X2 M2 t2 z2 => ?_) (fun g2 G2 X2 M2 e2 z2 => ?_) rfl (congrArg some (oI_r x1)) (congrArg some (oI_r x2))⟩
    · exact absurd (show _ from ⟨k2.mpr z2.1, by have z3 := z2.2; omega⟩) z1
    · exact ⟨_, rfl, rfl, G2, X2, ⟨R1_f M2 mj_19 Q1, by rw [e2, e2, e1, e1]; exact hl⟩, fun z => by cases z⟩
