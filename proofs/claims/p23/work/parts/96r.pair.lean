/-! the tie: ops that leave it, as pairs (printed by wip/e2/t8.py) -/
theorem in_k10 : kk_10 ∈ eKT 134 := List.mem_singleton.mpr rfl
theorem in_k11 : kk_11 ∈ eKT 221 := List.mem_singleton.mpr rfl
theorem toC_f {W : Nat} {g g1 : pH} (hM : f_M W g g1) (hW : W &&& mR0 = 0) {i : Int} (h : toC g i) : toC g1 i := by
  obtain ⟨m, h1, h2, h3⟩ := h
  exact ⟨m, h1, h2, by rw [cF_M hM (mx_f (mR01 hW) (mR1_b.2.2.2.2.2.2.2.2.1 m h1))]; exact h3⟩
theorem toC_b {W : Nat} {g g1 : pH} (hM : f_M W g g1) (hW : W &&& mR0 = 0) {i : Int} (h : toC g1 i) : toC g i := by
  obtain ⟨m, h1, h2, h3⟩ := h
  exact ⟨m, h1, h2, by rw [← cF_M hM (mx_f (mR01 hW) (mR1_b.2.2.2.2.2.2.2.2.1 m h1))]; exact h3⟩
theorem mk_0 : kk_10.2.2.2.1 &&& mR0 = 0 := by decide +kernel
theorem mk_1 : kk_11.2.2.2.1 &&& mR0 = 0 := by decide +kernel
theorem pr_looker {g : pH} (hG : g_I eG g) (hx : xL g) (hR : R0 g) (x1 x2 x3 : Int32) : pr_ R0 134 221 [.inl x1, .inl x2, .inl x3] 0 false g := by
  unfold pr_
  refine kc_go (k := kk_10) in_k10 rfl (by decide) hG hx (vs := [pvR 0, .inl x1, .inl x2, .inl x3]) (xs := [cv (pvR 0), x1.toInt, x2.toInt, x3.toInt]) ⟨by decide, ⟨⟨pvR 0, rfl, rfl, rfl, ok_0⟩, ⟨.inl x1, rfl, rfl, rfl, ok_full32 _⟩, ⟨.inl x2, rfl, rfl, rfl, ok_full32 _⟩, ⟨.inl x3, rfl, rfl, rfl, ok_full32 _⟩, trivial⟩, trivial, fun c hc => by cases hc⟩ rfl (n := 0) (by decide +kernel) (fun v1 g1 c1 G1 X1 M1 => ⟨v1, rfl, c1, ?_⟩)
  refine kc_go (k := kk_11) in_k11 rfl (by decide) G1 X1 (vs := [pvR 196, .inl x1, .inl x2, .inl x3]) (xs := [cv (pvR 196), x1.toInt, x2.toInt, x3.toInt]) ⟨by decide, ⟨⟨pvR 196, rfl, rfl, rfl, ok_this⟩, ⟨.inl x1, rfl, rfl, rfl, ok_full32 _⟩, ⟨.inl x2, rfl, rfl, rfl, ok_full32 _⟩, ⟨.inl x3, rfl, rfl, rfl, ok_full32 _⟩, trivial⟩, trivial, fun c hc => by cases hc⟩ rfl (n := 0) (by decide +kernel) (fun v2 g2 c2 G2 X2 M2 => ⟨v2, rfl, c2, G2, X2, R0_f M2 mk_1 (R0_f M1 mk_0 hR), fun z => by cases z⟩)
theorem mk_2 : kk_12.2.2.2.1 &&& mR0 = 0 := by decide +kernel
theorem mk_3 : kk_13.2.2.2.1 &&& mR0 = 0 := by decide +kernel
theorem pr_lamps {g : pH} (hG : g_I eG g) (hx : xL g) (hR : R0 g) (x1 : Int32) : pr_ R0 128 211 [.inl x1] 0 false g := by
  unfold pr_
  refine kc_go (k := kk_12) in_k12 rfl (by decide) hG hx (vs := [pvR 0, .inl x1]) (xs := [cv (pvR 0), x1.toInt]) ⟨by decide, ⟨⟨pvR 0, rfl, rfl, rfl, ok_0⟩, ⟨.inl x1, rfl, rfl, rfl, ok_full32 _⟩, trivial⟩, trivial, fun c hc => by cases hc⟩ rfl (n := 0) (by decide +kernel) (fun v1 g1 c1 G1 X1 M1 => ⟨v1, rfl, c1, ?_⟩)
  refine kc_go (k := kk_13) in_k13 rfl (by decide) G1 X1 (vs := [pvR 196, .inl x1]) (xs := [cv (pvR 196), x1.toInt]) ⟨by decide, ⟨⟨pvR 196, rfl, rfl, rfl, ok_this⟩, ⟨.inl x1, rfl, rfl, rfl, ok_full32 _⟩, trivial⟩, trivial, fun c hc => by cases hc⟩ rfl (n := 0) (by decide +kernel) (fun v2 g2 c2 G2 X2 M2 => ⟨v2, rfl, c2, G2, X2, R0_f M2 mk_3 (R0_f M1 mk_2 hR), fun z => by cases z⟩)
theorem mk_4 : kk_14.2.2.2.1 &&& mR0 = 0 := by decide +kernel
theorem mk_5 : kk_15.2.2.2.1 &&& mR0 = 0 := by decide +kernel
theorem pr_ways {g : pH} (hG : g_I eG g) (hx : xL g) (hR : R0 g) (x1 x2 x3 : Int32) : pr_ R0 164 273 [.inl x1, .inl x2, .inl x3] 0 false g := by
  unfold pr_
  refine kc_go (k := kk_14) in_k14 rfl (by decide) hG hx (vs := [pvR 0, .inl x1, .inl x2, .inl x3]) (xs := [cv (pvR 0), x1.toInt, x2.toInt, x3.toInt]) ⟨by decide, ⟨⟨pvR 0, rfl, rfl, rfl, ok_0⟩, ⟨.inl x1, rfl, rfl, rfl, ok_full32 _⟩, ⟨.inl x2, rfl, rfl, rfl, ok_full32 _⟩, ⟨.inl x3, rfl, rfl, rfl, ok_full32 _⟩, trivial⟩, trivial, fun c hc => by cases hc⟩ rfl (n := 0) (by decide +kernel) (fun v1 g1 c1 G1 X1 M1 => ⟨v1, rfl, c1, ?_⟩)
  refine kc_go (k := kk_15) in_k15 rfl (by decide) G1 X1 (vs := [pvR 196, .inl x1, .inl x2, .inl x3]) (xs := [cv (pvR 196), x1.toInt, x2.toInt, x3.toInt]) ⟨by decide, ⟨⟨pvR 196, rfl, rfl, rfl, ok_this⟩, ⟨.inl x1, rfl, rfl, rfl, ok_full32 _⟩, ⟨.inl x2, rfl, rfl, rfl, ok_full32 _⟩, ⟨.inl x3, rfl, rfl, rfl, ok_full32 _⟩, trivial⟩, trivial, fun c hc => by cases hc⟩ rfl (n := 0) (by decide +kernel) (fun v2 g2 c2 G2 X2 M2 => ⟨v2, rfl, c2, G2, X2, R0_f M2 mk_5 (R0_f M1 mk_4 hR), fun z => by cases z⟩)
theorem mk_6 : kk_16.2.2.2.1 &&& mR0 = 0 := by decide +kernel
theorem mk_7 : kk_17.2.2.2.1 &&& mR0 = 0 := by decide +kernel
theorem pr_shown {g : pH} (hG : g_I eG g) (hx : xL g) (hR : R0 g) (x1 x2 x3 : Int32) : pr_ R0 146 247 [.inl x1, .inl x2, .inl x3] 0 false g := by
  unfold pr_
  refine kc_go (k := kk_16) in_k16 rfl (by decide) hG hx (vs := [pvR 0, .inl x1, .inl x2, .inl x3]) (xs := [cv (pvR 0), x1.toInt, x2.toInt, x3.toInt]) ⟨by decide, ⟨⟨pvR 0, rfl, rfl, rfl, ok_0⟩, ⟨.inl x1, rfl, rfl, rfl, ok_full32 _⟩, ⟨.inl x2, rfl, rfl, rfl, ok_full32 _⟩, ⟨.inl x3, rfl, rfl, rfl, ok_full32 _⟩, trivial⟩, trivial, fun c hc => by cases hc⟩ rfl (n := 0) (by decide +kernel) (fun v1 g1 c1 G1 X1 M1 => ⟨v1, rfl, c1, ?_⟩)
  refine kc_go (k := kk_17) in_k17 rfl (by decide) G1 X1 (vs := [pvR 196, .inl x1, .inl x2, .inl x3]) (xs := [cv (pvR 196), x1.toInt, x2.toInt, x3.toInt]) ⟨by decide, ⟨⟨pvR 196, rfl, rfl, rfl, ok_this⟩, ⟨.inl x1, rfl, rfl, rfl, ok_full32 _⟩, ⟨.inl x2, rfl, rfl, rfl, ok_full32 _⟩, ⟨.inl x3, rfl, rfl, rfl, ok_full32 _⟩, trivial⟩, trivial, fun c hc => by cases hc⟩ rfl (n := 0) (by decide +kernel) (fun v2 g2 c2 G2 X2 M2 => ⟨v2, rfl, c2, G2, X2, R0_f M2 mk_7 (R0_f M1 mk_6 hR), fun z => by cases z⟩)
theorem mk_8 : kk_18.2.2.2.1 &&& mR0 = 0 := by decide +kernel
theorem mk_9 : kk_19.2.2.2.1 &&& mR0 = 0 := by decide +kernel
theorem pr_slideIs {g : pH} (hG : g_I eG g) (hx : xL g) (hR : R0 g) (x1 x2 : Int32) : pr_ R0 148 252 [.inl x1, .inl x2] 0 false g := by
  unfold pr_
  refine kc_go (k := kk_18) in_k18 rfl (by decide) hG hx (vs := [pvR 0, .inl x1, .inl x2]) (xs := [cv (pvR 0), x1.toInt, x2.toInt]) ⟨by decide, ⟨⟨pvR 0, rfl, rfl, rfl, ok_0⟩, ⟨.inl x1, rfl, rfl, rfl, ok_full32 _⟩, ⟨.inl x2, rfl, rfl, rfl, ok_full32 _⟩, trivial⟩, trivial, fun c hc => by cases hc⟩ rfl (n := 0) (by decide +kernel) (fun v1 g1 c1 G1 X1 M1 => ⟨v1, rfl, c1, ?_⟩)
  refine kc_go (k := kk_19) in_k19 rfl (by decide) G1 X1 (vs := [pvR 196, .inl x1, .inl x2]) (xs := [cv (pvR 196), x1.toInt, x2.toInt]) ⟨by decide, ⟨⟨pvR 196, rfl, rfl, rfl, ok_this⟩, ⟨.inl x1, rfl, rfl, rfl, ok_full32 _⟩, ⟨.inl x2, rfl, rfl, rfl, ok_full32 _⟩, trivial⟩, trivial, fun c hc => by cases hc⟩ rfl (n := 0) (by decide +kernel) (fun v2 g2 c2 G2 X2 M2 => ⟨v2, rfl, c2, G2, X2, R0_f M2 mk_9 (R0_f M1 mk_8 hR), fun z => by cases z⟩)
theorem mk_10 : kk_21.2.2.2.1 &&& mR0 = 0 := by decide +kernel
theorem mk_11 : kk_22.2.2.2.1 &&& mR0 = 0 := by decide +kernel
theorem pr_inTray {g : pH} (hG : g_I eG g) (hx : xL g) (hR : R0 g) (x1 : Int32) : pr_ R0 122 200 [.inl x1] 0 false g := by
  unfold pr_
  refine kc_go (k := kk_21) in_k21 rfl (by decide) hG hx (vs := [pvR 0, .inl x1]) (xs := [cv (pvR 0), x1.toInt]) ⟨by decide, ⟨⟨pvR 0, rfl, rfl, rfl, ok_0⟩, ⟨.inl x1, rfl, rfl, rfl, ok_full32 _⟩, trivial⟩, trivial, fun c hc => by cases hc⟩ rfl (n := 0) (by decide +kernel) (fun v1 g1 c1 G1 X1 M1 => ⟨v1, rfl, c1, ?_⟩)
  refine kc_go (k := kk_22) in_k22 rfl (by decide) G1 X1 (vs := [pvR 196, .inl x1]) (xs := [cv (pvR 196), x1.toInt]) ⟨by decide, ⟨⟨pvR 196, rfl, rfl, rfl, ok_this⟩, ⟨.inl x1, rfl, rfl, rfl, ok_full32 _⟩, trivial⟩, trivial, fun c hc => by cases hc⟩ rfl (n := 0) (by decide +kernel) (fun v2 g2 c2 G2 X2 M2 => ⟨v2, rfl, c2, G2, X2, R0_f M2 mk_11 (R0_f M1 mk_10 hR), fun z => by cases z⟩)
theorem mk_12 : kk_24.2.2.2.1 &&& mR0 = 0 := by decide +kernel
theorem mk_13 : kk_25.2.2.2.1 &&& mR0 = 0 := by decide +kernel
theorem pr_evening {g : pH} (hG : g_I eG g) (hx : xL g) (hR : R0 g) : pr_ R0 118 187 [] 0 false g := by
  unfold pr_
  refine kc_go (k := kk_24) in_k24 rfl (by decide) hG hx (vs := [pvR 0]) (xs := [cv (pvR 0)]) ⟨by decide, ⟨⟨pvR 0, rfl, rfl, rfl, ok_0⟩, trivial⟩, trivial, fun c hc => by cases hc⟩ rfl (n := 0) (by decide +kernel) (fun v1 g1 c1 G1 X1 M1 => ⟨v1, rfl, c1, ?_⟩)
  refine kc_go (k := kk_25) in_k25 rfl (by decide) G1 X1 (vs := [pvR 196]) (xs := [cv (pvR 196)]) ⟨by decide, ⟨⟨pvR 196, rfl, rfl, rfl, ok_this⟩, trivial⟩, trivial, fun c hc => by cases hc⟩ rfl (n := 0) (by decide +kernel) (fun v2 g2 c2 G2 X2 M2 => ⟨v2, rfl, c2, G2, X2, R0_f M2 mk_13 (R0_f M1 mk_12 hR), fun z => by cases z⟩)
theorem mk_14 : kk_26.2.2.2.1 &&& mR0 = 0 := by decide +kernel
theorem mk_15 : kk_27.2.2.2.1 &&& mR0 = 0 := by decide +kernel
theorem pr_tried {g : pH} (hG : g_I eG g) (hx : xL g) (hR : R0 g) (x1 : Int32) : pr_ R0 158 265 [.inl x1] 0 false g := by
  unfold pr_
  refine kc_go (k := kk_26) in_k26 rfl (by decide) hG hx (vs := [pvR 0, .inl x1]) (xs := [cv (pvR 0), x1.toInt]) ⟨by decide, ⟨⟨pvR 0, rfl, rfl, rfl, ok_0⟩, ⟨.inl x1, rfl, rfl, rfl, ok_full32 _⟩, trivial⟩, trivial, fun c hc => by cases hc⟩ rfl (n := 0) (by decide +kernel) (fun v1 g1 c1 G1 X1 M1 => ⟨v1, rfl, c1, ?_⟩)
  refine kc_go (k := kk_27) in_k27 rfl (by decide) G1 X1 (vs := [pvR 196, .inl x1]) (xs := [cv (pvR 196), x1.toInt]) ⟨by decide, ⟨⟨pvR 196, rfl, rfl, rfl, ok_this⟩, ⟨.inl x1, rfl, rfl, rfl, ok_full32 _⟩, trivial⟩, trivial, fun c hc => by cases hc⟩ rfl (n := 0) (by decide +kernel) (fun v2 g2 c2 G2 X2 M2 => ⟨v2, rfl, c2, G2, X2, R0_f M2 mk_15 (R0_f M1 mk_14 hR), fun z => by cases z⟩)
theorem mk_16 : kk_30.2.2.2.1 &&& mR0 = 0 := by decide +kernel
theorem mk_17 : kk_31.2.2.2.1 &&& mR0 = 0 := by decide +kernel
theorem pr_toTurn {g : pH} (hG : g_I eG g) (hx : xL g) (hR : R0 g) (x1 x2 : Int32) : pr_ R0 156 263 [.inl x1, .inl x2] 1 false g := by
  unfold pr_
  refine kc_go (k := kk_30) in_k30 rfl (by decide) hG hx (vs := [pvR 0, .inl x1, .inl x2]) (xs := [cv (pvR 0), x1.toInt, x2.toInt]) ⟨by decide, ⟨⟨pvR 0, rfl, rfl, rfl, ok_0⟩, ⟨.inl x1, rfl, rfl, rfl, ok_full32 _⟩, ⟨.inl x2, rfl, rfl, rfl, ok_full32 _⟩, trivial⟩, trivial, fun c hc => by cases hc⟩ rfl (n := 1) (by decide +kernel) (fun v1 g1 c1 G1 X1 M1 => ⟨v1, rfl, c1, ?_⟩)
  refine kc_go (k := kk_31) in_k31 rfl (by decide) G1 X1 (vs := [pvR 196, .inl x1, .inl x2]) (xs := [cv (pvR 196), x1.toInt, x2.toInt]) ⟨by decide, ⟨⟨pvR 196, rfl, rfl, rfl, ok_this⟩, ⟨.inl x1, rfl, rfl, rfl, ok_full32 _⟩, ⟨.inl x2, rfl, rfl, rfl, ok_full32 _⟩, trivial⟩, trivial, fun c hc => by cases hc⟩ rfl (n := 1) (by decide +kernel) (fun v2 g2 c2 G2 X2 M2 => ⟨v2, rfl, c2, G2, X2, R0_f M2 mk_17 (R0_f M1 mk_16 hR), fun z => by cases z⟩)
theorem mk_18 : kk_32.2.2.2.1 &&& mR0 = 0 := by decide +kernel
theorem mk_19 : kk_33.2.2.2.1 &&& mR0 = 0 := by decide +kernel
theorem pr_leave {g : pH} (hG : g_I eG g) (hx : xL g) (hR : R0 g) (x1 x2 : Int32) : pr_ R0 130 217 [.inl x1, .inl x2] 1 false g := by
  unfold pr_
  refine kc_go (k := kk_32) in_k32 rfl (by decide) hG hx (vs := [pvR 0, .inl x1, .inl x2]) (xs := [cv (pvR 0), x1.toInt, x2.toInt]) ⟨by decide, ⟨⟨pvR 0, rfl, rfl, rfl, ok_0⟩, ⟨.inl x1, rfl, rfl, rfl, ok_full32 _⟩, ⟨.inl x2, rfl, rfl, rfl, ok_full32 _⟩, trivial⟩, trivial, fun c hc => by cases hc⟩ rfl (n := 1) (by decide +kernel) (fun v1 g1 c1 G1 X1 M1 => ⟨v1, rfl, c1, ?_⟩)
  refine kc_go (k := kk_33) in_k33 rfl (by decide) G1 X1 (vs := [pvR 196, .inl x1, .inl x2]) (xs := [cv (pvR 196), x1.toInt, x2.toInt]) ⟨by decide, ⟨⟨pvR 196, rfl, rfl, rfl, ok_this⟩, ⟨.inl x1, rfl, rfl, rfl, ok_full32 _⟩, ⟨.inl x2, rfl, rfl, rfl, ok_full32 _⟩, trivial⟩, trivial, fun c hc => by cases hc⟩ rfl (n := 1) (by decide +kernel) (fun v2 g2 c2 G2 X2 M2 => ⟨v2, rfl, c2, G2, X2, R0_f M2 mk_19 (R0_f M1 mk_18 hR), fun z => by cases z⟩)
theorem mk_20 : kk_38.2.2.2.1 &&& mR0 = 0 := by decide +kernel
theorem mk_21 : kk_39.2.2.2.1 &&& mR0 = 0 := by decide +kernel
theorem pr_dots {g : pH} (hG : g_I eG g) (hx : xL g) (hR : R0 g) (x1 x2 : Int32) : pr_ R0 117 184 [.inl x1, .inl x2] 0 false g := by
  unfold pr_
  refine kc_go (k := kk_38) in_k38 rfl (by decide) hG hx (vs := [pvR 0, .inl x1, .inl x2]) (xs := [cv (pvR 0), x1.toInt, x2.toInt]) ⟨by decide, ⟨⟨pvR 0, rfl, rfl, rfl, ok_0⟩, ⟨.inl x1, rfl, rfl, rfl, ok_full32 _⟩, ⟨.inl x2, rfl, rfl, rfl, ok_full32 _⟩, trivial⟩, trivial, fun c hc => by cases hc⟩ rfl (n := 0) (by decide +kernel) (fun v1 g1 c1 G1 X1 M1 => ⟨v1, rfl, c1, ?_⟩)
  refine kc_go (k := kk_39) in_k39 rfl (by decide) G1 X1 (vs := [pvR 196, .inl x1, .inl x2]) (xs := [cv (pvR 196), x1.toInt, x2.toInt]) ⟨by decide, ⟨⟨pvR 196, rfl, rfl, rfl, ok_this⟩, ⟨.inl x1, rfl, rfl, rfl, ok_full32 _⟩, ⟨.inl x2, rfl, rfl, rfl, ok_full32 _⟩, trivial⟩, trivial, fun c hc => by cases hc⟩ rfl (n := 0) (by decide +kernel) (fun v2 g2 c2 G2 X2 M2 => ⟨v2, rfl, c2, G2, X2, R0_f M2 mk_21 (R0_f M1 mk_20 hR), fun z => by cases z⟩)
theorem mk_22 : kk_34.2.2.2.1 &&& mR0 = 0 := by decide +kernel
theorem mk_23 : kk_35.2.2.2.1 &&& mR0 = 0 := by decide +kernel
theorem pr_lightBox {g : pH} (hG : g_I eG g) (hx : xL g) (hR : R0 g) (x1 x2 : Int32) : pr_ R0 132 219 [.inl x1, .inl x2] 1 false g := by
  unfold pr_
  refine kc_go (k := kk_34) in_k34 rfl (by decide) hG hx (vs := [pvR 0, .inl x1, .inl x2]) (xs := [cv (pvR 0), x1.toInt, x2.toInt]) ⟨by decide, ⟨⟨pvR 0, rfl, rfl, rfl, ok_0⟩, ⟨.inl x1, rfl, rfl, rfl, ok_full32 _⟩, ⟨.inl x2, rfl, rfl, rfl, ok_full32 _⟩, trivial⟩, trivial, fun c hc => by cases hc⟩ rfl (n := 1) (by decide +kernel) (fun v1 g1 c1 G1 X1 M1 => ⟨v1, rfl, c1, ?_⟩)
  refine kc_go (k := kk_35) in_k35 rfl (by decide) G1 X1 (vs := [pvR 196, .inl x1, .inl x2]) (xs := [cv (pvR 196), x1.toInt, x2.toInt]) ⟨by decide, ⟨⟨pvR 196, rfl, rfl, rfl, ok_this⟩, ⟨.inl x1, rfl, rfl, rfl, ok_full32 _⟩, ⟨.inl x2, rfl, rfl, rfl, ok_full32 _⟩, trivial⟩, trivial, fun c hc => by cases hc⟩ rfl (n := 1) (by decide +kernel) (fun v2 g2 c2 G2 X2 M2 => ⟨v2, rfl, c2, G2, X2, R0_f M2 mk_23 (R0_f M1 mk_22 hR), fun z => by cases z⟩)
theorem mk_24 : kk_40.2.2.2.1 &&& mR0 = 0 := by decide +kernel
theorem mk_25 : kk_41.2.2.2.1 &&& mR0 = 0 := by decide +kernel
theorem pr_clue {g : pH} (hG : g_I eG g) (hx : xL g) (hR : R0 g) (x1 x2 : Int32) : pr_ R0 111 177 [.inl x1, .inl x2] 0 false g := by
  unfold pr_
  refine kc_go (k := kk_40) in_k40 rfl (by decide) hG hx (vs := [pvR 0, .inl x1, .inl x2]) (xs := [cv (pvR 0), x1.toInt, x2.toInt]) ⟨by decide, ⟨⟨pvR 0, rfl, rfl, rfl, ok_0⟩, ⟨.inl x1, rfl, rfl, rfl, ok_full32 _⟩, ⟨.inl x2, rfl, rfl, rfl, ok_full32 _⟩, trivial⟩, trivial, fun c hc => by cases hc⟩ rfl (n := 0) (by decide +kernel) (fun v1 g1 c1 G1 X1 M1 => ⟨v1, rfl, c1, ?_⟩)
  refine kc_go (k := kk_41) in_k41 rfl (by decide) G1 X1 (vs := [pvR 196, .inl x1, .inl x2]) (xs := [cv (pvR 196), x1.toInt, x2.toInt]) ⟨by decide, ⟨⟨pvR 196, rfl, rfl, rfl, ok_this⟩, ⟨.inl x1, rfl, rfl, rfl, ok_full32 _⟩, ⟨.inl x2, rfl, rfl, rfl, ok_full32 _⟩, trivial⟩, trivial, fun c hc => by cases hc⟩ rfl (n := 0) (by decide +kernel) (fun v2 g2 c2 G2 X2 M2 => ⟨v2, rfl, c2, G2, X2, R0_f M2 mk_25 (R0_f M1 mk_24 hR), fun z => by cases z⟩)
theorem mk_26 : kk_44.2.2.2.1 &&& mR0 = 0 := by decide +kernel
theorem mk_27 : kk_45.2.2.2.1 &&& mR0 = 0 := by decide +kernel
theorem pr_shadow {g : pH} (hG : g_I eG g) (hx : xL g) (hR : R0 g) (x1 x2 x3 : Int32) : pr_ R0 145 246 [.inl x1, .inl x2, .inl x3] 0 false g := by
  unfold pr_
  refine kc_go (k := kk_44) in_k44 rfl (by decide) hG hx (vs := [pvR 0, .inl x1, .inl x2, .inl x3]) (xs := [cv (pvR 0), x1.toInt, x2.toInt, x3.toInt]) ⟨by decide, ⟨⟨pvR 0, rfl, rfl, rfl, ok_0⟩, ⟨.inl x1, rfl, rfl, rfl, ok_full32 _⟩, ⟨.inl x2, rfl, rfl, rfl, ok_full32 _⟩, ⟨.inl x3, rfl, rfl, rfl, ok_full32 _⟩, trivial⟩, trivial, fun c hc => by cases hc⟩ rfl (n := 0) (by decide +kernel) (fun v1 g1 c1 G1 X1 M1 => ⟨v1, rfl, c1, ?_⟩)
  refine kc_go (k := kk_45) in_k45 rfl (by decide) G1 X1 (vs := [pvR 196, .inl x1, .inl x2, .inl x3]) (xs := [cv (pvR 196), x1.toInt, x2.toInt, x3.toInt]) ⟨by decide, ⟨⟨pvR 196, rfl, rfl, rfl, ok_this⟩, ⟨.inl x1, rfl, rfl, rfl, ok_full32 _⟩, ⟨.inl x2, rfl, rfl, rfl, ok_full32 _⟩, ⟨.inl x3, rfl, rfl, rfl, ok_full32 _⟩, trivial⟩, trivial, fun c hc => by cases hc⟩ rfl (n := 0) (by decide +kernel) (fun v2 g2 c2 G2 X2 M2 => ⟨v2, rfl, c2, G2, X2, R0_f M2 mk_27 (R0_f M1 mk_26 hR), fun z => by cases z⟩)
theorem mk_28 : kk_46.2.2.2.1 &&& mR0 = 0 := by decide +kernel
theorem mk_29 : kk_47.2.2.2.1 &&& mR0 = 0 := by decide +kernel
theorem pr_link {g : pH} (hG : g_I eG g) (hx : xL g) (hR : R0 g) (x1 x2 : Int32) : pr_ R0 133 220 [.inl x1, .inl x2] 0 false g := by
  unfold pr_
  refine kc_go (k := kk_46) in_k46 rfl (by decide) hG hx (vs := [pvR 0, .inl x1, .inl x2]) (xs := [cv (pvR 0), x1.toInt, x2.toInt]) ⟨by decide, ⟨⟨pvR 0, rfl, rfl, rfl, ok_0⟩, ⟨.inl x1, rfl, rfl, rfl, ok_full32 _⟩, ⟨.inl x2, rfl, rfl, rfl, ok_full32 _⟩, trivial⟩, trivial, fun c hc => by cases hc⟩ rfl (n := 0) (by decide +kernel) (fun v1 g1 c1 G1 X1 M1 => ⟨v1, rfl, c1, ?_⟩)
  refine kc_go (k := kk_47) in_k47 rfl (by decide) G1 X1 (vs := [pvR 196, .inl x1, .inl x2]) (xs := [cv (pvR 196), x1.toInt, x2.toInt]) ⟨by decide, ⟨⟨pvR 196, rfl, rfl, rfl, ok_this⟩, ⟨.inl x1, rfl, rfl, rfl, ok_full32 _⟩, ⟨.inl x2, rfl, rfl, rfl, ok_full32 _⟩, trivial⟩, trivial, fun c hc => by cases hc⟩ rfl (n := 0) (by decide +kernel) (fun v2 g2 c2 G2 X2 M2 => ⟨v2, rfl, c2, G2, X2, R0_f M2 mk_29 (R0_f M1 mk_28 hR), fun z => by cases z⟩)
theorem mk_30 : kk_48.2.2.2.1 &&& mR0 = 0 := by decide +kernel
theorem mk_31 : kk_49.2.2.2.1 &&& mR0 = 0 := by decide +kernel
theorem pr_leftOut {g : pH} (hG : g_I eG g) (hx : xL g) (hR : R0 g) (x1 x2 : Int32) : pr_ R0 131 218 [.inl x1, .inl x2] 0 false g := by
  unfold pr_
  refine kc_go (k := kk_48) in_k48 rfl (by decide) hG hx (vs := [pvR 0, .inl x1, .inl x2]) (xs := [cv (pvR 0), x1.toInt, x2.toInt]) ⟨by decide, ⟨⟨pvR 0, rfl, rfl, rfl, ok_0⟩, ⟨.inl x1, rfl, rfl, rfl, ok_full32 _⟩, ⟨.inl x2, rfl, rfl, rfl, ok_full32 _⟩, trivial⟩, trivial, fun c hc => by cases hc⟩ rfl (n := 0) (by decide +kernel) (fun v1 g1 c1 G1 X1 M1 => ⟨v1, rfl, c1, ?_⟩)
  refine kc_go (k := kk_49) in_k49 rfl (by decide) G1 X1 (vs := [pvR 196, .inl x1, .inl x2]) (xs := [cv (pvR 196), x1.toInt, x2.toInt]) ⟨by decide, ⟨⟨pvR 196, rfl, rfl, rfl, ok_this⟩, ⟨.inl x1, rfl, rfl, rfl, ok_full32 _⟩, ⟨.inl x2, rfl, rfl, rfl, ok_full32 _⟩, trivial⟩, trivial, fun c hc => by cases hc⟩ rfl (n := 0) (by decide +kernel) (fun v2 g2 c2 G2 X2 M2 => ⟨v2, rfl, c2, G2, X2, R0_f M2 mk_31 (R0_f M1 mk_30 hR), fun z => by cases z⟩)
theorem mk_32 : kk_50.2.2.2.1 &&& mR0 = 0 := by decide +kernel
theorem mk_33 : kk_51.2.2.2.1 &&& mR0 = 0 := by decide +kernel
theorem pr_lamp {g : pH} (hG : g_I eG g) (hx : xL g) (hR : R0 g) (x1 x2 x3 : Int32) : pr_ R0 127 210 [.inl x1, .inl x2, .inl x3] 1 false g := by
  unfold pr_
  refine kc_go (k := kk_50) in_k50 rfl (by decide) hG hx (vs := [pvR 0, .inl x1, .inl x2, .inl x3]) (xs := [cv (pvR 0), x1.toInt, x2.toInt, x3.toInt]) ⟨by decide, ⟨⟨pvR 0, rfl, rfl, rfl, ok_0⟩, ⟨.inl x1, rfl, rfl, rfl, ok_full32 _⟩, ⟨.inl x2, rfl, rfl, rfl, ok_full32 _⟩, ⟨.inl x3, rfl, rfl, rfl, ok_full32 _⟩, trivial⟩, trivial, fun c hc => by cases hc⟩ rfl (n := 1) (by decide +kernel) (fun v1 g1 c1 G1 X1 M1 => ⟨v1, rfl, c1, ?_⟩)
  refine kc_go (k := kk_51) in_k51 rfl (by decide) G1 X1 (vs := [pvR 196, .inl x1, .inl x2, .inl x3]) (xs := [cv (pvR 196), x1.toInt, x2.toInt, x3.toInt]) ⟨by decide, ⟨⟨pvR 196, rfl, rfl, rfl, ok_this⟩, ⟨.inl x1, rfl, rfl, rfl, ok_full32 _⟩, ⟨.inl x2, rfl, rfl, rfl, ok_full32 _⟩, ⟨.inl x3, rfl, rfl, rfl, ok_full32 _⟩, trivial⟩, trivial, fun c hc => by cases hc⟩ rfl (n := 1) (by decide +kernel) (fun v2 g2 c2 G2 X2 M2 => ⟨v2, rfl, c2, G2, X2, R0_f M2 mk_33 (R0_f M1 mk_32 hR), fun z => by cases z⟩)
theorem mk_34 : kk_52.2.2.2.1 &&& mR0 = 0 := by decide +kernel
theorem mk_35 : kk_53.2.2.2.1 &&& mR0 = 0 := by decide +kernel
theorem pr_hand {g : pH} (hG : g_I eG g) (hx : xL g) (hR : R0 g) (x1 : Int32) : pr_ R0 121 195 [.inl x1] 1 false g := by
  unfold pr_
  refine kc_go (k := kk_52) in_k52 rfl (by decide) hG hx (vs := [pvR 0, .inl x1]) (xs := [cv (pvR 0), x1.toInt]) ⟨by decide, ⟨⟨pvR 0, rfl, rfl, rfl, ok_0⟩, ⟨.inl x1, rfl, rfl, rfl, ok_full32 _⟩, trivial⟩, trivial, fun c hc => by cases hc⟩ rfl (n := 1) (by decide +kernel) (fun v1 g1 c1 G1 X1 M1 => ⟨v1, rfl, c1, ?_⟩)
  refine kc_go (k := kk_53) in_k53 rfl (by decide) G1 X1 (vs := [pvR 196, .inl x1]) (xs := [cv (pvR 196), x1.toInt]) ⟨by decide, ⟨⟨pvR 196, rfl, rfl, rfl, ok_this⟩, ⟨.inl x1, rfl, rfl, rfl, ok_full32 _⟩, trivial⟩, trivial, fun c hc => by cases hc⟩ rfl (n := 1) (by decide +kernel) (fun v2 g2 c2 G2 X2 M2 => ⟨v2, rfl, c2, G2, X2, R0_f M2 mk_35 (R0_f M1 mk_34 hR), fun z => by cases z⟩)
theorem mk_36 : kk_55.2.2.2.1 &&& mR0 = 0 := by decide +kernel
theorem mk_37 : kk_56.2.2.2.1 &&& mR0 = 0 := by decide +kernel
theorem pr_seed {g : pH} (hG : g_I eG g) (hx : xL g) (hR : R0 g) (x1 : Int32) : pr_ R0 144 245 [.inl x1] 0 false g := by
  unfold pr_
  refine kc_go (k := kk_55) in_k55 rfl (by decide) hG hx (vs := [pvR 0, .inl x1]) (xs := [cv (pvR 0), x1.toInt]) ⟨by decide, ⟨⟨pvR 0, rfl, rfl, rfl, ok_0⟩, ⟨.inl x1, rfl, rfl, rfl, ok_full32 _⟩, trivial⟩, trivial, fun c hc => by cases hc⟩ rfl (n := 0) (by decide +kernel) (fun v1 g1 c1 G1 X1 M1 => ⟨v1, rfl, c1, ?_⟩)
  refine kc_go (k := kk_56) in_k56 rfl (by decide) G1 X1 (vs := [pvR 196, .inl x1]) (xs := [cv (pvR 196), x1.toInt]) ⟨by decide, ⟨⟨pvR 196, rfl, rfl, rfl, ok_this⟩, ⟨.inl x1, rfl, rfl, rfl, ok_full32 _⟩, trivial⟩, trivial, fun c hc => by cases hc⟩ rfl (n := 0) (by decide +kernel) (fun v2 g2 c2 G2 X2 M2 => ⟨v2, rfl, c2, G2, X2, R0_f M2 mk_37 (R0_f M1 mk_36 hR), fun z => by cases z⟩)
theorem mk_38 : kk_63.2.2.2.1 &&& mR0 = 0 := by decide +kernel
theorem mk_39 : kk_64.2.2.2.1 &&& mR0 = 0 := by decide +kernel
theorem pr_count {g : pH} (hG : g_I eG g) (hx : xL g) (hR : R0 g) (x1 : Int32) : pr_ R0 115 182 [.inl x1] 0 false g := by
  unfold pr_
  refine kc_go (k := kk_63) in_k63 rfl (by decide) hG hx (vs := [pvR 0, .inl x1]) (xs := [cv (pvR 0), x1.toInt]) ⟨by decide, ⟨⟨pvR 0, rfl, rfl, rfl, ok_0⟩, ⟨.inl x1, rfl, rfl, rfl, ok_full32 _⟩, trivial⟩, trivial, fun c hc => by cases hc⟩ rfl (n := 0) (by decide +kernel) (fun v1 g1 c1 G1 X1 M1 => ⟨v1, rfl, c1, ?_⟩)
  refine kc_go (k := kk_64) in_k64 rfl (by decide) G1 X1 (vs := [pvR 196, .inl x1]) (xs := [cv (pvR 196), x1.toInt]) ⟨by decide, ⟨⟨pvR 196, rfl, rfl, rfl, ok_this⟩, ⟨.inl x1, rfl, rfl, rfl, ok_full32 _⟩, trivial⟩, trivial, fun c hc => by cases hc⟩ rfl (n := 0) (by decide +kernel) (fun v2 g2 c2 G2 X2 M2 => ⟨v2, rfl, c2, G2, X2, R0_f M2 mk_39 (R0_f M1 mk_38 hR), fun z => by cases z⟩)
theorem mk_40 : kk_54.2.2.2.1 &&& mR0 = 0 := by decide +kernel
theorem mk_41 : Wp &&& mR0 = 0 := by decide +kernel
theorem pr_putIn {g : pH} (hG : g_I eG g) (hx : xL g) (hR : R0 g) : pr_ R0 140 232 [] 0 false g := by
  unfold pr_
  refine kc_go (k := kk_54) in_k54 rfl (by decide) hG hx (vs := [pvR 0]) (xs := [cv (pvR 0)]) ⟨by decide, ⟨⟨pvR 0, rfl, rfl, rfl, ok_0⟩, trivial⟩, trivial, fun c hc => by cases hc⟩ rfl (n := 0) (by decide +kernel) (fun v1 g1 c1 G1 X1 M1 => ⟨v1, rfl, c1, ?_⟩)
  exact pi_run (by decide) (by decide) G1 X1 (fun g2 z2 J2 => ⟨_, rfl, rfl, J2.1, xL_K _ _ _ J2.2 Wp_1.2.2.1 X1, R0_f J2.2 mk_41 (R0_f M1 mk_40 hR), fun z => by cases z⟩) rfl
theorem mk_42 : kcpu_a.2.2.2.1 &&& mR0 = 0 := by decide +kernel
theorem mk_43 : kmpu_a.2.2.2.1 &&& mR0 = 0 := by decide +kernel
theorem pr_put {g : pH} (hG : g_I eG g) (hx : xL g) (hR : R0 g) (x1 x2 : Int32) : pr_ R0 139 231 [.inl x1, .inl x2] 0 true g := by
  unfold pr_
  refine cpu_run (i := x1.toInt) (w := x2.toInt) (by decide) (by decide) hG hx hR.1.1 (i32_b _) (i32_b _) (fun g1 G1 X1 M1 z1 => ?_) (fun g1 G1 X1 M1 e1 z1 => ?_) rfl (congrArg some (oI_r x1)) (congrArg some (oI_r x2))
  · have R1 := R0_f M1 mk_42 hR
    refine ⟨_, rfl, rfl, mpu_run (i := x1.toInt) (w := x2.toInt) (by decide) (by decide) G1 X1 (i32_b _) (i32_b _) (fun g2 G2 X2 M2 z2 => ?_) (fun g2 G2 X2 M2 e2 z2 => ?_) rfl (congrArg some (oI_r x1)) (congrArg some (oI_r x2))⟩
    · exact ⟨_, rfl, rfl, G2, X2, R0_f M2 mk_43 R1, fun _ => rfl⟩
    · exact absurd ⟨(to_iff R1.1).mp (toC_f M1 mk_42 z1.1), z1.2⟩ z2
  · have R1 := R0_f M1 mk_42 hR
    refine ⟨_, rfl, rfl, mpu_run (i := x1.toInt) (w := x2.toInt) (by decide) (by decide) G1 X1 (i32_b _) (i32_b _) (fun g2 G2 X2 M2 z2 => ?_) (fun g2 G2 X2 M2 e2 z2 => ?_) rfl (congrArg some (oI_r x1)) (congrArg some (oI_r x2))⟩
    · exact absurd ⟨toC_b M1 mk_42 ((to_iff R1.1).mpr z2.1), z2.2⟩ z1
    · exact ⟨_, rfl, rfl, G2, X2, R0_f M2 mk_43 R1, fun _ => rfl⟩
theorem mk_44 : kcda_a.2.2.2.1 &&& mR0 = 0 := by decide +kernel
theorem mk_45 : kmda_a.2.2.2.1 &&& mR0 = 0 := by decide +kernel
theorem pr_day {g : pH} (hG : g_I eG g) (hx : xL g) (hR : R0 g) (x1 x2 : Int32) : pr_ R0 116 183 [.inl x1, .inl x2] 0 true g := by
  unfold pr_
  refine cda_run (i := x1.toInt) (w := x2.toInt) (by decide) (by decide) hG hx hR.1.1 (i32_b _) (i32_b _) (fun g1 G1 X1 M1 z1 => ?_) (fun g1 G1 X1 M1 e1 z1 => ?_) rfl (congrArg some (oI_r x1)) (congrArg some (oI_r x2))
  · have R1 := R0_f M1 mk_44 hR
    refine ⟨_, rfl, rfl, mda_run (i := x1.toInt) (w := x2.toInt) (by decide) (by decide) G1 X1 (i32_b _) (i32_b _) (fun g2 G2 X2 M2 z2 => ?_) (fun g2 G2 X2 M2 e2 z2 => ?_) rfl (congrArg some (oI_r x1)) (congrArg some (oI_r x2))⟩
    · exact ⟨_, rfl, rfl, G2, X2, R0_f M2 mk_45 R1, fun _ => rfl⟩
    · exact absurd ⟨(to_iff R1.1).mp (toC_f M1 mk_44 z1.1), z1.2⟩ z2
  · have R1 := R0_f M1 mk_44 hR
    refine ⟨_, rfl, rfl, mda_run (i := x1.toInt) (w := x2.toInt) (by decide) (by decide) G1 X1 (i32_b _) (i32_b _) (fun g2 G2 X2 M2 z2 => ?_) (fun g2 G2 X2 M2 e2 z2 => ?_) rfl (congrArg some (oI_r x1)) (congrArg some (oI_r x2))⟩
    · exact absurd ⟨toC_b M1 mk_44 ((to_iff R1.1).mpr z2.1), z2.2⟩ z1
    · exact ⟨_, rfl, rfl, G2, X2, R0_f M2 mk_45 R1, fun _ => rfl⟩
theorem mk_46 : kcsu_a.2.2.2.1 &&& mR0 = 0 := by decide +kernel
theorem mk_47 : kmsu_a.2.2.2.1 &&& mR0 = 0 := by decide +kernel
theorem pr_sure {g : pH} (hG : g_I eG g) (hx : xL g) (hR : R0 g) (x1 x2 : Int32) : pr_ R0 150 258 [.inl x1, .inl x2] 0 true g := by
  unfold pr_
  refine csu_run (i := x1.toInt) (w := x2.toInt) (by decide) (by decide) hG hx hR.1.1 (i32_b _) (i32_b _) (fun g1 G1 X1 M1 z1 => ?_) (fun g1 G1 X1 M1 e1 z1 => ?_) rfl (congrArg some (oI_r x1)) (congrArg some (oI_r x2))
  · have R1 := R0_f M1 mk_46 hR
    refine ⟨_, rfl, rfl, msu_run (i := x1.toInt) (w := x2.toInt) (by decide) (by decide) G1 X1 (i32_b _) (i32_b _) (fun g2 G2 X2 M2 z2 => ?_) (fun g2 G2 X2 M2 e2 z2 => ?_) rfl (congrArg some (oI_r x1)) (congrArg some (oI_r x2))⟩
    · exact ⟨_, rfl, rfl, G2, X2, R0_f M2 mk_47 R1, fun _ => rfl⟩
    · exact absurd ⟨(to_iff R1.1).mp (toC_f M1 mk_46 z1.1), z1.2⟩ z2
  · have R1 := R0_f M1 mk_46 hR
    refine ⟨_, rfl, rfl, msu_run (i := x1.toInt) (w := x2.toInt) (by decide) (by decide) G1 X1 (i32_b _) (i32_b _) (fun g2 G2 X2 M2 z2 => ?_) (fun g2 G2 X2 M2 e2 z2 => ?_) rfl (congrArg some (oI_r x1)) (congrArg some (oI_r x2))⟩
    · exact absurd ⟨toC_b M1 mk_46 ((to_iff R1.1).mpr z2.1), z2.2⟩ z1
    · exact ⟨_, rfl, rfl, G2, X2, R0_f M2 mk_47 R1, fun _ => rfl⟩
