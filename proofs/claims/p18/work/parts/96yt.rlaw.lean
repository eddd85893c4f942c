/-! the law in use: what both sides know; ops as pairs with it (printed by wip/e2/x10.py) -/
def mL9 : Nat := 40547811062956893248780734139637697968239335128800305025574926194831203687878853090025164132851155582702119999429529867478722830612976027992688349549597725205484740734435955634058133040397241537098813625029021014322227569737319847300898077358737980512861024417860287066748647919805233033097865330688
theorem mL_b : (mL9.testBit (cn 164 + 0) = true ∧ mL9.testBit (cn 164 + 1) = true) ∧ (mL9.testBit (cn 222) = true ∧ mL9.testBit (cn 223) = true ∧ mL9.testBit (cn 224) = true ∧ mL9.testBit (cn 225) = true ∧ mL9.testBit (cn 226) = true) ∧ mL9.testBit (cn 196 + 35) = true ∧ mL9.testBit (cn 156 + 0) = true := by decide +kernel
theorem mL_K {K : Nat} (hK : lK K) : mL9.testBit (cn K + 0) = true ∧ mL9.testBit (cn (K + 1)) = true ∧ mL9.testBit (cn (K + 2)) = true ∧ mL9.testBit (cn (K + 3)) = true ∧ mL9.testBit (cn (K + 4)) = true ∧ mL9.testBit (cn (K + 5)) = true ∧ mL9.testBit (cn (K + 6)) = true := by rcases hK with rfl | rfl <;> decide +kernel
/-- the law in use, as both sides have it -/
def rLx (g : pH) (K : Nat) : Prop := ∃ (k1 c : Int) (o v le st co en : tC), k1 ≤ 240 ∧ c ≤ 16 ∧ wCl k1 o v c st co en ∧ (cF g K 0 = c ∧ fA g (K + 1) = o ∧ fA g (K + 2) = v ∧ fA g (K + 3) = le ∧ fA g (K + 4) = st ∧ fA g (K + 5) = co ∧ fA g (K + 6) = en) ∧ cF g 196 35 = c ∧ (∀ j : Nat, (j : Int) < k1 → fA g 222 j = 1048576 * o j + v j) ∧ ∀ j : Nat, (j : Int) < c → fA g 223 j = le j ∧ fA g 224 j = st j ∧ fA g 225 j = co j ∧ fA g 226 j = en j
def rL (g : pH) (K K2 : Nat) : Prop := g.2.2.1 164 0 = some K ∧ g.2.2.1 164 1 = some K2 ∧ rLx g K
def RL (g : pH) : Prop := rL g 156 165 ∨ rL g 165 156
theorem rLx_c {K : Nat} {g g1 : pH} (h0 : cF g1 K 0 = cF g K 0) (h1 : fA g1 (K + 1) = fA g (K + 1)) (h2 : fA g1 (K + 2) = fA g (K + 2)) (h3 : fA g1 (K + 3) = fA g (K + 3)) (h4 : fA g1 (K + 4) = fA g (K + 4)) (h5 : fA g1 (K + 5) = fA g (K + 5)) (h6 : fA g1 (K + 6) = fA g (K + 6)) (hC : lCo g g1) (h : rLx g K) : rLx g1 K := by
  obtain ⟨k1, c, o, v, le, st, co, en, a1, a2, a3, ⟨b0, b1, b2, b3, b4, b5, b6⟩, c0, c1, c2⟩ := h
  obtain ⟨d0, d1, d2, d3, d4, d5⟩ := hC
  refine ⟨k1, c, o, v, le, st, co, en, a1, a2, a3, ⟨h0.trans b0, h1.trans b1, h2.trans b2, h3.trans b3, h4.trans b4, h5.trans b5, h6.trans b6⟩, d0.trans c0, fun j hj => ?_, fun j hj => ?_⟩
  · rw [d1]
    exact c1 j hj
  · rw [d2, d3, d4, d5]
    exact c2 j hj
theorem lCo_f {W : Nat} {g g1 : pH} (hM : f_M W g g1) (hW : W &&& mL9 = 0) : lCo g g1 := by
  obtain ⟨-, ⟨e1, e2, e3, e4, e5⟩, e6, -⟩ := mL_b
  exact ⟨cF_M hM (mx_f hW e6), fA_M hM (mx_f hW e1), fA_M hM (mx_f hW e2), fA_M hM (mx_f hW e3), fA_M hM (mx_f hW e4), fA_M hM (mx_f hW e5)⟩
theorem rLx_f {K : Nat} (hK : lK K) {W : Nat} {g g1 : pH} (hM : f_M W g g1) (hW : W &&& mL9 = 0) (h : rLx g K) : rLx g1 K := by
  obtain ⟨b0, b1, b2, b3, b4, b5, b6⟩ := mL_K hK
  exact rLx_c (cF_M hM (mx_f hW b0)) (fA_M hM (mx_f hW b1)) (fA_M hM (mx_f hW b2)) (fA_M hM (mx_f hW b3)) (fA_M hM (mx_f hW b4)) (fA_M hM (mx_f hW b5)) (fA_M hM (mx_f hW b6)) (lCo_f hM hW) h
theorem RL_f {W : Nat} {g g1 : pH} (hM : f_M W g g1) (hW : W &&& mL9 = 0) (h : RL g) : RL g1 := by
  have e0 := (hM.1 164 0 (mx_f hW mL_b.1.1)).2.2
  have e1 := (hM.1 164 1 (mx_f hW mL_b.1.2)).2.2
  rcases h with ⟨h1, h2, h3⟩ | ⟨h1, h2, h3⟩
  · exact Or.inl ⟨e0.trans h1, e1.trans h2, rLx_f (Or.inl rfl) hM hW h3⟩
  · exact Or.inr ⟨e0.trans h1, e1.trans h2, rLx_f (Or.inr rfl) hM hW h3⟩
theorem ml9_0 : kk_0.2.2.2.1 &&& mL9 = 0 := by decide +kernel
theorem ml9_1 : kk_1.2.2.2.1 &&& mL9 = 0 := by decide +kernel
theorem pwL_feed {g : pH} (hG : g_I eG g) (hx : xL g) (hR : R0 g) (hT : RL g) (x1 x2 x3 x4 x5 : Int32) : pr_ RL 119 189 [.inl x1, .inl x2, .inl x3, .inl x4, .inl x5] 0 false g := by
  unfold pr_
  refine kc_go (k := kk_0) in_k0 rfl (by decide) hG hx (vs := [pvR 0, .inl x1, .inl x2, .inl x3, .inl x4, .inl x5]) (xs := [cv (pvR 0), x1.toInt, x2.toInt, x3.toInt, x4.toInt, x5.toInt]) ⟨by decide, ⟨⟨pvR 0, rfl, rfl, rfl, ok_0⟩, ⟨.inl x1, rfl, rfl, rfl, ok_full32 _⟩, ⟨.inl x2, rfl, rfl, rfl, ok_full32 _⟩, ⟨.inl x3, rfl, rfl, rfl, ok_full32 _⟩, ⟨.inl x4, rfl, rfl, rfl, ok_full32 _⟩, ⟨.inl x5, rfl, rfl, rfl, ok_full32 _⟩, trivial⟩, trivial, fun c hc => by cases hc⟩ rfl (n := 0) (by decide +kernel) (fun v1 g1 c1 G1 X1 M1 => ⟨v1, rfl, c1, ?_⟩)
  have Q1 := RL_f M1 ml9_0 hT
  exact kc_go (k := kk_1) in_k1 rfl (by decide) G1 X1 (vs := [pvR 196, .inl x1, .inl x2, .inl x3, .inl x4, .inl x5]) (xs := [cv (pvR 196), x1.toInt, x2.toInt, x3.toInt, x4.toInt, x5.toInt]) ⟨by decide, ⟨⟨pvR 196, rfl, rfl, rfl, ok_this⟩, ⟨.inl x1, rfl, rfl, rfl, ok_full32 _⟩, ⟨.inl x2, rfl, rfl, rfl, ok_full32 _⟩, ⟨.inl x3, rfl, rfl, rfl, ok_full32 _⟩, ⟨.inl x4, rfl, rfl, rfl, ok_full32 _⟩, ⟨.inl x5, rfl, rfl, rfl, ok_full32 _⟩, trivial⟩, trivial, fun c hc => by cases hc⟩ rfl (n := 0) (by decide +kernel) (fun v2 g2 c2 G2 X2 M2 => ⟨v2, rfl, c2, G2, X2, RL_f M2 ml9_1 Q1, fun z => by cases z⟩)
theorem ml9_2 : kk_2.2.2.2.1 &&& mL9 = 0 := by decide +kernel
theorem ml9_3 : kk_3.2.2.2.1 &&& mL9 = 0 := by decide +kernel
theorem pwL_slide {g : pH} (hG : g_I eG g) (hx : xL g) (hR : R0 g) (hT : RL g) (x1 x2 x3 x4 : Int32) : pr_ RL 147 251 [.inl x1, .inl x2, .inl x3, .inl x4] 0 false g := by
  unfold pr_
  refine kc_go (k := kk_2) in_k2 rfl (by decide) hG hx (vs := [pvR 0, .inl x1, .inl x2, .inl x3, .inl x4]) (xs := [cv (pvR 0), x1.toInt, x2.toInt, x3.toInt, x4.toInt]) ⟨by decide, ⟨⟨pvR 0, rfl, rfl, rfl, ok_0⟩, ⟨.inl x1, rfl, rfl, rfl, ok_full32 _⟩, ⟨.inl x2, rfl, rfl, rfl, ok_full32 _⟩, ⟨.inl x3, rfl, rfl, rfl, ok_full32 _⟩, ⟨.inl x4, rfl, rfl, rfl, ok_full32 _⟩, trivial⟩, trivial, fun c hc => by cases hc⟩ rfl (n := 0) (by decide +kernel) (fun v1 g1 c1 G1 X1 M1 => ⟨v1, rfl, c1, ?_⟩)
  have Q1 := RL_f M1 ml9_2 hT
  exact kc_go (k := kk_3) in_k3 rfl (by decide) G1 X1 (vs := [pvR 196, .inl x1, .inl x2, .inl x3, .inl x4]) (xs := [cv (pvR 196), x1.toInt, x2.toInt, x3.toInt, x4.toInt]) ⟨by decide, ⟨⟨pvR 196, rfl, rfl, rfl, ok_this⟩, ⟨.inl x1, rfl, rfl, rfl, ok_full32 _⟩, ⟨.inl x2, rfl, rfl, rfl, ok_full32 _⟩, ⟨.inl x3, rfl, rfl, rfl, ok_full32 _⟩, ⟨.inl x4, rfl, rfl, rfl, ok_full32 _⟩, trivial⟩, trivial, fun c hc => by cases hc⟩ rfl (n := 0) (by decide +kernel) (fun v2 g2 c2 G2 X2 M2 => ⟨v2, rfl, c2, G2, X2, RL_f M2 ml9_3 Q1, fun z => by cases z⟩)
theorem ml9_4 : kk_4.2.2.2.1 &&& mL9 = 0 := by decide +kernel
theorem ml9_5 : kk_5.2.2.2.1 &&& mL9 = 0 := by decide +kernel
theorem pwL_put {g : pH} (hG : g_I eG g) (hx : xL g) (hR : R0 g) (hT : RL g) (x1 x2 : Int32) : pr_ RL 139 231 [.inl x1, .inl x2] 0 false g := by
  unfold pr_
  refine kc_go (k := kk_4) in_k4 rfl (by decide) hG hx (vs := [pvR 0, .inl x1, .inl x2]) (xs := [cv (pvR 0), x1.toInt, x2.toInt]) ⟨by decide, ⟨⟨pvR 0, rfl, rfl, rfl, ok_0⟩, ⟨.inl x1, rfl, rfl, rfl, ok_full32 _⟩, ⟨.inl x2, rfl, rfl, rfl, ok_full32 _⟩, trivial⟩, trivial, fun c hc => by cases hc⟩ rfl (n := 0) (by decide +kernel) (fun v1 g1 c1 G1 X1 M1 => ⟨v1, rfl, c1, ?_⟩)
  have Q1 := RL_f M1 ml9_4 hT
  exact kc_go (k := kk_5) in_k5 rfl (by decide) G1 X1 (vs := [pvR 196, .inl x1, .inl x2]) (xs := [cv (pvR 196), x1.toInt, x2.toInt]) ⟨by decide, ⟨⟨pvR 196, rfl, rfl, rfl, ok_this⟩, ⟨.inl x1, rfl, rfl, rfl, ok_full32 _⟩, ⟨.inl x2, rfl, rfl, rfl, ok_full32 _⟩, trivial⟩, trivial, fun c hc => by cases hc⟩ rfl (n := 0) (by decide +kernel) (fun v2 g2 c2 G2 X2 M2 => ⟨v2, rfl, c2, G2, X2, RL_f M2 ml9_5 Q1, fun z => by cases z⟩)
theorem ml9_6 : kk_6.2.2.2.1 &&& mL9 = 0 := by decide +kernel
theorem ml9_7 : kk_7.2.2.2.1 &&& mL9 = 0 := by decide +kernel
theorem pwL_day {g : pH} (hG : g_I eG g) (hx : xL g) (hR : R0 g) (hT : RL g) (x1 x2 : Int32) : pr_ RL 116 183 [.inl x1, .inl x2] 0 false g := by
  unfold pr_
  refine kc_go (k := kk_6) in_k6 rfl (by decide) hG hx (vs := [pvR 0, .inl x1, .inl x2]) (xs := [cv (pvR 0), x1.toInt, x2.toInt]) ⟨by decide, ⟨⟨pvR 0, rfl, rfl, rfl, ok_0⟩, ⟨.inl x1, rfl, rfl, rfl, ok_full32 _⟩, ⟨.inl x2, rfl, rfl, rfl, ok_full32 _⟩, trivial⟩, trivial, fun c hc => by cases hc⟩ rfl (n := 0) (by decide +kernel) (fun v1 g1 c1 G1 X1 M1 => ⟨v1, rfl, c1, ?_⟩)
  have Q1 := RL_f M1 ml9_6 hT
  exact kc_go (k := kk_7) in_k7 rfl (by decide) G1 X1 (vs := [pvR 196, .inl x1, .inl x2]) (xs := [cv (pvR 196), x1.toInt, x2.toInt]) ⟨by decide, ⟨⟨pvR 196, rfl, rfl, rfl, ok_this⟩, ⟨.inl x1, rfl, rfl, rfl, ok_full32 _⟩, ⟨.inl x2, rfl, rfl, rfl, ok_full32 _⟩, trivial⟩, trivial, fun c hc => by cases hc⟩ rfl (n := 0) (by decide +kernel) (fun v2 g2 c2 G2 X2 M2 => ⟨v2, rfl, c2, G2, X2, RL_f M2 ml9_7 Q1, fun z => by cases z⟩)
theorem ml9_8 : kk_8.2.2.2.1 &&& mL9 = 0 := by decide +kernel
theorem ml9_9 : kk_9.2.2.2.1 &&& mL9 = 0 := by decide +kernel
theorem pwL_gone {g : pH} (hG : g_I eG g) (hx : xL g) (hR : R0 g) (hT : RL g) (x1 : Int32) : pr_ RL 120 194 [.inl x1] 0 false g := by
  unfold pr_
  refine kc_go (k := kk_8) in_k8 rfl (by decide) hG hx (vs := [pvR 0, .inl x1]) (xs := [cv (pvR 0), x1.toInt]) ⟨by decide, ⟨⟨pvR 0, rfl, rfl, rfl, ok_0⟩, ⟨.inl x1, rfl, rfl, rfl, ok_full32 _⟩, trivial⟩, trivial, fun c hc => by cases hc⟩ rfl (n := 0) (by decide +kernel) (fun v1 g1 c1 G1 X1 M1 => ⟨v1, rfl, c1, ?_⟩)
  have Q1 := RL_f M1 ml9_8 hT
  exact kc_go (k := kk_9) in_k9 rfl (by decide) G1 X1 (vs := [pvR 196, .inl x1]) (xs := [cv (pvR 196), x1.toInt]) ⟨by decide, ⟨⟨pvR 196, rfl, rfl, rfl, ok_this⟩, ⟨.inl x1, rfl, rfl, rfl, ok_full32 _⟩, trivial⟩, trivial, fun c hc => by cases hc⟩ rfl (n := 0) (by decide +kernel) (fun v2 g2 c2 G2 X2 M2 => ⟨v2, rfl, c2, G2, X2, RL_f M2 ml9_9 Q1, fun z => by cases z⟩)
theorem ml9_10 : kk_10.2.2.2.1 &&& mL9 = 0 := by decide +kernel
theorem ml9_11 : kk_11.2.2.2.1 &&& mL9 = 0 := by decide +kernel
theorem pwL_looker {g : pH} (hG : g_I eG g) (hx : xL g) (hR : R0 g) (hT : RL g) (x1 x2 x3 : Int32) : pr_ RL 134 221 [.inl x1, .inl x2, .inl x3] 0 false g := by
  unfold pr_
  refine kc_go (k := kk_10) in_k10 rfl (by decide) hG hx (vs := [pvR 0, .inl x1, .inl x2, .inl x3]) (xs := [cv (pvR 0), x1.toInt, x2.toInt, x3.toInt]) ⟨by decide, ⟨⟨pvR 0, rfl, rfl, rfl, ok_0⟩, ⟨.inl x1, rfl, rfl, rfl, ok_full32 _⟩, ⟨.inl x2, rfl, rfl, rfl, ok_full32 _⟩, ⟨.inl x3, rfl, rfl, rfl, ok_full32 _⟩, trivial⟩, trivial, fun c hc => by cases hc⟩ rfl (n := 0) (by decide +kernel) (fun v1 g1 c1 G1 X1 M1 => ⟨v1, rfl, c1, ?_⟩)
  have Q1 := RL_f M1 ml9_10 hT
  exact kc_go (k := kk_11) in_k11 rfl (by decide) G1 X1 (vs := [pvR 196, .inl x1, .inl x2, .inl x3]) (xs := [cv (pvR 196), x1.toInt, x2.toInt, x3.toInt]) ⟨by decide, ⟨⟨pvR 196, rfl, rfl, rfl, ok_this⟩, ⟨.inl x1, rfl, rfl, rfl, ok_full32 _⟩, ⟨.inl x2, rfl, rfl, rfl, ok_full32 _⟩, ⟨.inl x3, rfl, rfl, rfl, ok_full32 _⟩, trivial⟩, trivial, fun c hc => by cases hc⟩ rfl (n := 0) (by decide +kernel) (fun v2 g2 c2 G2 X2 M2 => ⟨v2, rfl, c2, G2, X2, RL_f M2 ml9_11 Q1, fun z => by cases z⟩)
theorem ml9_12 : kk_12.2.2.2.1 &&& mL9 = 0 := by decide +kernel
theorem ml9_13 : kk_13.2.2.2.1 &&& mL9 = 0 := by decide +kernel
theorem pwL_lamps {g : pH} (hG : g_I eG g) (hx : xL g) (hR : R0 g) (hT : RL g) (x1 : Int32) : pr_ RL 128 211 [.inl x1] 0 false g := by
  unfold pr_
  refine kc_go (k := kk_12) in_k12 rfl (by decide) hG hx (vs := [pvR 0, .inl x1]) (xs := [cv (pvR 0), x1.toInt]) ⟨by decide, ⟨⟨pvR 0, rfl, rfl, rfl, ok_0⟩, ⟨.inl x1, rfl, rfl, rfl, ok_full32 _⟩, trivial⟩, trivial, fun c hc => by cases hc⟩ rfl (n := 0) (by decide +kernel) (fun v1 g1 c1 G1 X1 M1 => ⟨v1, rfl, c1, ?_⟩)
  have Q1 := RL_f M1 ml9_12 hT
  exact kc_go (k := kk_13) in_k13 rfl (by decide) G1 X1 (vs := [pvR 196, .inl x1]) (xs := [cv (pvR 196), x1.toInt]) ⟨by decide, ⟨⟨pvR 196, rfl, rfl, rfl, ok_this⟩, ⟨.inl x1, rfl, rfl, rfl, ok_full32 _⟩, trivial⟩, trivial, fun c hc => by cases hc⟩ rfl (n := 0) (by decide +kernel) (fun v2 g2 c2 G2 X2 M2 => ⟨v2, rfl, c2, G2, X2, RL_f M2 ml9_13 Q1, fun z => by cases z⟩)
theorem ml9_14 : kk_20.2.2.2.1 &&& mL9 = 0 := by decide +kernel
theorem ml9_15 : Wt &&& mL9 = 0 := by decide +kernel
theorem pwL_tray {g : pH} (hG : g_I eG g) (hx : xL g) (hR : R0 g) (hT : RL g) (x1 : Int32) : pr_ RL 157 264 [.inl x1] 0 false g := by
  unfold pr_
  refine kc_go (k := kk_20) in_k20 rfl (by decide) hG hx (vs := [pvR 0, .inl x1]) (xs := [cv (pvR 0), x1.toInt]) ⟨by decide, ⟨⟨pvR 0, rfl, rfl, rfl, ok_0⟩, ⟨.inl x1, rfl, rfl, rfl, ok_full32 _⟩, trivial⟩, trivial, fun c hc => by cases hc⟩ rfl (n := 0) (by decide +kernel) (fun v1 g1 c1 G1 X1 M1 => ⟨v1, rfl, c1, ?_⟩)
  have Q1 := RL_f M1 ml9_14 hT
  exact ty9_run (n := x1.toInt) (by decide) G1 (i32_b _) (fun z2 g2 v2 J2 t2 => ⟨_, rfl, rfl, J2.1, xL_K _ _ _ J2.2 Wt_a.2.2.2.2 X1, RL_f J2.2 ml9_15 Q1, fun z => by cases z⟩) (fun z2 => ⟨_, rfl, rfl, G1, X1, Q1, fun z => by cases z⟩) rfl (congrArg some (oI_r x1))
theorem ml9_16 : kk_14.2.2.2.1 &&& mL9 = 0 := by decide +kernel
theorem ml9_17 : kk_15.2.2.2.1 &&& mL9 = 0 := by decide +kernel
theorem pwL_ways {g : pH} (hG : g_I eG g) (hx : xL g) (hR : R0 g) (hT : RL g) (x1 x2 x3 : Int32) : pr_ RL 164 273 [.inl x1, .inl x2, .inl x3] 0 false g := by
  unfold pr_
  refine kc_go (k := kk_14) in_k14 rfl (by decide) hG hx (vs := [pvR 0, .inl x1, .inl x2, .inl x3]) (xs := [cv (pvR 0), x1.toInt, x2.toInt, x3.toInt]) ⟨by decide, ⟨⟨pvR 0, rfl, rfl, rfl, ok_0⟩, ⟨.inl x1, rfl, rfl, rfl, ok_full32 _⟩, ⟨.inl x2, rfl, rfl, rfl, ok_full32 _⟩, ⟨.inl x3, rfl, rfl, rfl, ok_full32 _⟩, trivial⟩, trivial, fun c hc => by cases hc⟩ rfl (n := 0) (by decide +kernel) (fun v1 g1 c1 G1 X1 M1 => ⟨v1, rfl, c1, ?_⟩)
  have Q1 := RL_f M1 ml9_16 hT
  exact kc_go (k := kk_15) in_k15 rfl (by decide) G1 X1 (vs := [pvR 196, .inl x1, .inl x2, .inl x3]) (xs := [cv (pvR 196), x1.toInt, x2.toInt, x3.toInt]) ⟨by decide, ⟨⟨pvR 196, rfl, rfl, rfl, ok_this⟩, ⟨.inl x1, rfl, rfl, rfl, ok_full32 _⟩, ⟨.inl x2, rfl, rfl, rfl, ok_full32 _⟩, ⟨.inl x3, rfl, rfl, rfl, ok_full32 _⟩, trivial⟩, trivial, fun c hc => by cases hc⟩ rfl (n := 0) (by decide +kernel) (fun v2 g2 c2 G2 X2 M2 => ⟨v2, rfl, c2, G2, X2, RL_f M2 ml9_17 Q1, fun z => by cases z⟩)
theorem ml9_18 : kk_16.2.2.2.1 &&& mL9 = 0 := by decide +kernel
theorem ml9_19 : kk_17.2.2.2.1 &&& mL9 = 0 := by decide +kernel
theorem pwL_shown {g : pH} (hG : g_I eG g) (hx : xL g) (hR : R0 g) (hT : RL g) (x1 x2 x3 : Int32) : pr_ RL 146 247 [.inl x1, .inl x2, .inl x3] 0 false g := by
  unfold pr_
  refine kc_go (k := kk_16) in_k16 rfl (by decide) hG hx (vs := [pvR 0, .inl x1, .inl x2, .inl x3]) (xs := [cv (pvR 0), x1.toInt, x2.toInt, x3.toInt]) ⟨by decide, ⟨⟨pvR 0, rfl, rfl, rfl, ok_0⟩, ⟨.inl x1, rfl, rfl, rfl, ok_full32 _⟩, ⟨.inl x2, rfl, rfl, rfl, ok_full32 _⟩, ⟨.inl x3, rfl, rfl, rfl, ok_full32 _⟩, trivial⟩, trivial, fun c hc => by cases hc⟩ rfl (n := 0) (by decide +kernel) (fun v1 g1 c1 G1 X1 M1 => ⟨v1, rfl, c1, ?_⟩)
  have Q1 := RL_f M1 ml9_18 hT
  exact kc_go (k := kk_17) in_k17 rfl (by decide) G1 X1 (vs := [pvR 196, .inl x1, .inl x2, .inl x3]) (xs := [cv (pvR 196), x1.toInt, x2.toInt, x3.toInt]) ⟨by decide, ⟨⟨pvR 196, rfl, rfl, rfl, ok_this⟩, ⟨.inl x1, rfl, rfl, rfl, ok_full32 _⟩, ⟨.inl x2, rfl, rfl, rfl, ok_full32 _⟩, ⟨.inl x3, rfl, rfl, rfl, ok_full32 _⟩, trivial⟩, trivial, fun c hc => by cases hc⟩ rfl (n := 0) (by decide +kernel) (fun v2 g2 c2 G2 X2 M2 => ⟨v2, rfl, c2, G2, X2, RL_f M2 ml9_19 Q1, fun z => by cases z⟩)
theorem ml9_20 : kk_18.2.2.2.1 &&& mL9 = 0 := by decide +kernel
theorem ml9_21 : kk_19.2.2.2.1 &&& mL9 = 0 := by decide +kernel
theorem pwL_slideIs {g : pH} (hG : g_I eG g) (hx : xL g) (hR : R0 g) (hT : RL g) (x1 x2 : Int32) : pr_ RL 148 252 [.inl x1, .inl x2] 0 false g := by
  unfold pr_
  refine kc_go (k := kk_18) in_k18 rfl (by decide) hG hx (vs := [pvR 0, .inl x1, .inl x2]) (xs := [cv (pvR 0), x1.toInt, x2.toInt]) ⟨by decide, ⟨⟨pvR 0, rfl, rfl, rfl, ok_0⟩, ⟨.inl x1, rfl, rfl, rfl, ok_full32 _⟩, ⟨.inl x2, rfl, rfl, rfl, ok_full32 _⟩, trivial⟩, trivial, fun c hc => by cases hc⟩ rfl (n := 0) (by decide +kernel) (fun v1 g1 c1 G1 X1 M1 => ⟨v1, rfl, c1, ?_⟩)
  have Q1 := RL_f M1 ml9_20 hT
  exact kc_go (k := kk_19) in_k19 rfl (by decide) G1 X1 (vs := [pvR 196, .inl x1, .inl x2]) (xs := [cv (pvR 196), x1.toInt, x2.toInt]) ⟨by decide, ⟨⟨pvR 196, rfl, rfl, rfl, ok_this⟩, ⟨.inl x1, rfl, rfl, rfl, ok_full32 _⟩, ⟨.inl x2, rfl, rfl, rfl, ok_full32 _⟩, trivial⟩, trivial, fun c hc => by cases hc⟩ rfl (n := 0) (by decide +kernel) (fun v2 g2 c2 G2 X2 M2 => ⟨v2, rfl, c2, G2, X2, RL_f M2 ml9_21 Q1, fun z => by cases z⟩)
theorem ml9_22 : kk_21.2.2.2.1 &&& mL9 = 0 := by decide +kernel
theorem ml9_23 : kk_22.2.2.2.1 &&& mL9 = 0 := by decide +kernel
theorem pwL_inTray {g : pH} (hG : g_I eG g) (hx : xL g) (hR : R0 g) (hT : RL g) (x1 : Int32) : pr_ RL 122 200 [.inl x1] 0 false g := by
  unfold pr_
  refine kc_go (k := kk_21) in_k21 rfl (by decide) hG hx (vs := [pvR 0, .inl x1]) (xs := [cv (pvR 0), x1.toInt]) ⟨by decide, ⟨⟨pvR 0, rfl, rfl, rfl, ok_0⟩, ⟨.inl x1, rfl, rfl, rfl, ok_full32 _⟩, trivial⟩, trivial, fun c hc => by cases hc⟩ rfl (n := 0) (by decide +kernel) (fun v1 g1 c1 G1 X1 M1 => ⟨v1, rfl, c1, ?_⟩)
  have Q1 := RL_f M1 ml9_22 hT
  exact kc_go (k := kk_22) in_k22 rfl (by decide) G1 X1 (vs := [pvR 196, .inl x1]) (xs := [cv (pvR 196), x1.toInt]) ⟨by decide, ⟨⟨pvR 196, rfl, rfl, rfl, ok_this⟩, ⟨.inl x1, rfl, rfl, rfl, ok_full32 _⟩, trivial⟩, trivial, fun c hc => by cases hc⟩ rfl (n := 0) (by decide +kernel) (fun v2 g2 c2 G2 X2 M2 => ⟨v2, rfl, c2, G2, X2, RL_f M2 ml9_23 Q1, fun z => by cases z⟩)
theorem ml9_24 : kk_24.2.2.2.1 &&& mL9 = 0 := by decide +kernel
theorem ml9_25 : kk_25.2.2.2.1 &&& mL9 = 0 := by decide +kernel
theorem pwL_evening {g : pH} (hG : g_I eG g) (hx : xL g) (hR : R0 g) (hT : RL g) : pr_ RL 118 187 [] 0 false g := by
  unfold pr_
  refine kc_go (k := kk_24) in_k24 rfl (by decide) hG hx (vs := [pvR 0]) (xs := [cv (pvR 0)]) ⟨by decide, ⟨⟨pvR 0, rfl, rfl, rfl, ok_0⟩, trivial⟩, trivial, fun c hc => by cases hc⟩ rfl (n := 0) (by decide +kernel) (fun v1 g1 c1 G1 X1 M1 => ⟨v1, rfl, c1, ?_⟩)
  have Q1 := RL_f M1 ml9_24 hT
  exact kc_go (k := kk_25) in_k25 rfl (by decide) G1 X1 (vs := [pvR 196]) (xs := [cv (pvR 196)]) ⟨by decide, ⟨⟨pvR 196, rfl, rfl, rfl, ok_this⟩, trivial⟩, trivial, fun c hc => by cases hc⟩ rfl (n := 0) (by decide +kernel) (fun v2 g2 c2 G2 X2 M2 => ⟨v2, rfl, c2, G2, X2, RL_f M2 ml9_25 Q1, fun z => by cases z⟩)
theorem ml9_26 : kk_26.2.2.2.1 &&& mL9 = 0 := by decide +kernel
theorem ml9_27 : kk_27.2.2.2.1 &&& mL9 = 0 := by decide +kernel
theorem pwL_tried {g : pH} (hG : g_I eG g) (hx : xL g) (hR : R0 g) (hT : RL g) (x1 : Int32) : pr_ RL 158 265 [.inl x1] 0 false g := by
  unfold pr_
  refine kc_go (k := kk_26) in_k26 rfl (by decide) hG hx (vs := [pvR 0, .inl x1]) (xs := [cv (pvR 0), x1.toInt]) ⟨by decide, ⟨⟨pvR 0, rfl, rfl, rfl, ok_0⟩, ⟨.inl x1, rfl, rfl, rfl, ok_full32 _⟩, trivial⟩, trivial, fun c hc => by cases hc⟩ rfl (n := 0) (by decide +kernel) (fun v1 g1 c1 G1 X1 M1 => ⟨v1, rfl, c1, ?_⟩)
  have Q1 := RL_f M1 ml9_26 hT
  exact kc_go (k := kk_27) in_k27 rfl (by decide) G1 X1 (vs := [pvR 196, .inl x1]) (xs := [cv (pvR 196), x1.toInt]) ⟨by decide, ⟨⟨pvR 196, rfl, rfl, rfl, ok_this⟩, ⟨.inl x1, rfl, rfl, rfl, ok_full32 _⟩, trivial⟩, trivial, fun c hc => by cases hc⟩ rfl (n := 0) (by decide +kernel) (fun v2 g2 c2 G2 X2 M2 => ⟨v2, rfl, c2, G2, X2, RL_f M2 ml9_27 Q1, fun z => by cases z⟩)
theorem ml9_28 : kk_28.2.2.2.1 &&& mL9 = 0 := by decide +kernel
theorem ml9_29 : kk_29.2.2.2.1 &&& mL9 = 0 := by decide +kernel
theorem pwL_odds {g : pH} (hG : g_I eG g) (hx : xL g) (hR : R0 g) (hT : RL g) (x1 x2 x3 x4 : Int32) : pr_ RL 137 228 [.inl x1, .inl x2, .inl x3, .inl x4] 0 false g := by
  unfold pr_
  refine kc_go (k := kk_28) in_k28 rfl (by decide) hG hx (vs := [pvR 0, .inl x1, .inl x2, .inl x3, .inl x4]) (xs := [cv (pvR 0), x1.toInt, x2.toInt, x3.toInt, x4.toInt]) ⟨by decide, ⟨⟨pvR 0, rfl, rfl, rfl, ok_0⟩, ⟨.inl x1, rfl, rfl, rfl, ok_full32 _⟩, ⟨.inl x2, rfl, rfl, rfl, ok_full32 _⟩, ⟨.inl x3, rfl, rfl, rfl, ok_full32 _⟩, ⟨.inl x4, rfl, rfl, rfl, ok_full32 _⟩, trivial⟩, trivial, fun c hc => by cases hc⟩ rfl (n := 0) (by decide +kernel) (fun v1 g1 c1 G1 X1 M1 => ⟨v1, rfl, c1, ?_⟩)
  have Q1 := RL_f M1 ml9_28 hT
  exact kc_go (k := kk_29) in_k29 rfl (by decide) G1 X1 (vs := [pvR 196, .inl x1, .inl x2, .inl x3, .inl x4]) (xs := [cv (pvR 196), x1.toInt, x2.toInt, x3.toInt, x4.toInt]) ⟨by decide, ⟨⟨pvR 196, rfl, rfl, rfl, ok_this⟩, ⟨.inl x1, rfl, rfl, rfl, ok_full32 _⟩, ⟨.inl x2, rfl, rfl, rfl, ok_full32 _⟩, ⟨.inl x3, rfl, rfl, rfl, ok_full32 _⟩, ⟨.inl x4, rfl, rfl, rfl, ok_full32 _⟩, trivial⟩, trivial, fun c hc => by cases hc⟩ rfl (n := 0) (by decide +kernel) (fun v2 g2 c2 G2 X2 M2 => ⟨v2, rfl, c2, G2, X2, RL_f M2 ml9_29 Q1, fun z => by cases z⟩)
theorem ml9_30 : kk_30.2.2.2.1 &&& mL9 = 0 := by decide +kernel
theorem ml9_31 : kk_31.2.2.2.1 &&& mL9 = 0 := by decide +kernel
theorem pwL_toTurn {g : pH} (hG : g_I eG g) (hx : xL g) (hR : R0 g) (hT : RL g) (x1 x2 : Int32) : pr_ RL 156 263 [.inl x1, .inl x2] 1 false g := by
  unfold pr_
  refine kc_go (k := kk_30) in_k30 rfl (by decide) hG hx (vs := [pvR 0, .inl x1, .inl x2]) (xs := [cv (pvR 0), x1.toInt, x2.toInt]) ⟨by decide, ⟨⟨pvR 0, rfl, rfl, rfl, ok_0⟩, ⟨.inl x1, rfl, rfl, rfl, ok_full32 _⟩, ⟨.inl x2, rfl, rfl, rfl, ok_full32 _⟩, trivial⟩, trivial, fun c hc => by cases hc⟩ rfl (n := 1) (by decide +kernel) (fun v1 g1 c1 G1 X1 M1 => ⟨v1, rfl, c1, ?_⟩)
  have Q1 := RL_f M1 ml9_30 hT
  exact kc_go (k := kk_31) in_k31 rfl (by decide) G1 X1 (vs := [pvR 196, .inl x1, .inl x2]) (xs := [cv (pvR 196), x1.toInt, x2.toInt]) ⟨by decide, ⟨⟨pvR 196, rfl, rfl, rfl, ok_this⟩, ⟨.inl x1, rfl, rfl, rfl, ok_full32 _⟩, ⟨.inl x2, rfl, rfl, rfl, ok_full32 _⟩, trivial⟩, trivial, fun c hc => by cases hc⟩ rfl (n := 1) (by decide +kernel) (fun v2 g2 c2 G2 X2 M2 => ⟨v2, rfl, c2, G2, X2, RL_f M2 ml9_31 Q1, fun z => by cases z⟩)
theorem ml9_32 : kk_32.2.2.2.1 &&& mL9 = 0 := by decide +kernel
theorem ml9_33 : kk_33.2.2.2.1 &&& mL9 = 0 := by decide +kernel
theorem pwL_leave {g : pH} (hG : g_I eG g) (hx : xL g) (hR : R0 g) (hT : RL g) (x1 x2 : Int32) : pr_ RL 130 217 [.inl x1, .inl x2] 1 false g := by
  unfold pr_
  refine kc_go (k := kk_32) in_k32 rfl (by decide) hG hx (vs := [pvR 0, .inl x1, .inl x2]) (xs := [cv (pvR 0), x1.toInt, x2.toInt]) ⟨by decide, ⟨⟨pvR 0, rfl, rfl, rfl, ok_0⟩, ⟨.inl x1, rfl, rfl, rfl, ok_full32 _⟩, ⟨.inl x2, rfl, rfl, rfl, ok_full32 _⟩, trivial⟩, trivial, fun c hc => by cases hc⟩ rfl (n := 1) (by decide +kernel) (fun v1 g1 c1 G1 X1 M1 => ⟨v1, rfl, c1, ?_⟩)
  have Q1 := RL_f M1 ml9_32 hT
  exact kc_go (k := kk_33) in_k33 rfl (by decide) G1 X1 (vs := [pvR 196, .inl x1, .inl x2]) (xs := [cv (pvR 196), x1.toInt, x2.toInt]) ⟨by decide, ⟨⟨pvR 196, rfl, rfl, rfl, ok_this⟩, ⟨.inl x1, rfl, rfl, rfl, ok_full32 _⟩, ⟨.inl x2, rfl, rfl, rfl, ok_full32 _⟩, trivial⟩, trivial, fun c hc => by cases hc⟩ rfl (n := 1) (by decide +kernel) (fun v2 g2 c2 G2 X2 M2 => ⟨v2, rfl, c2, G2, X2, RL_f M2 ml9_33 Q1, fun z => by cases z⟩)
theorem ml9_34 : kk_36.2.2.2.1 &&& mL9 = 0 := by decide +kernel
theorem ml9_35 : kk_37.2.2.2.1 &&& mL9 = 0 := by decide +kernel
theorem pwL_sure {g : pH} (hG : g_I eG g) (hx : xL g) (hR : R0 g) (hT : RL g) (x1 x2 : Int32) : pr_ RL 150 258 [.inl x1, .inl x2] 0 false g := by
  unfold pr_
  refine kc_go (k := kk_36) in_k36 rfl (by decide) hG hx (vs := [pvR 0, .inl x1, .inl x2]) (xs := [cv (pvR 0), x1.toInt, x2.toInt]) ⟨by decide, ⟨⟨pvR 0, rfl, rfl, rfl, ok_0⟩, ⟨.inl x1, rfl, rfl, rfl, ok_full32 _⟩, ⟨.inl x2, rfl, rfl, rfl, ok_full32 _⟩, trivial⟩, trivial, fun c hc => by cases hc⟩ rfl (n := 0) (by decide +kernel) (fun v1 g1 c1 G1 X1 M1 => ⟨v1, rfl, c1, ?_⟩)
  have Q1 := RL_f M1 ml9_34 hT
  exact kc_go (k := kk_37) in_k37 rfl (by decide) G1 X1 (vs := [pvR 196, .inl x1, .inl x2]) (xs := [cv (pvR 196), x1.toInt, x2.toInt]) ⟨by decide, ⟨⟨pvR 196, rfl, rfl, rfl, ok_this⟩, ⟨.inl x1, rfl, rfl, rfl, ok_full32 _⟩, ⟨.inl x2, rfl, rfl, rfl, ok_full32 _⟩, trivial⟩, trivial, fun c hc => by cases hc⟩ rfl (n := 0) (by decide +kernel) (fun v2 g2 c2 G2 X2 M2 => ⟨v2, rfl, c2, G2, X2, RL_f M2 ml9_35 Q1, fun z => by cases z⟩)
theorem ml9_36 : kk_38.2.2.2.1 &&& mL9 = 0 := by decide +kernel
theorem ml9_37 : kk_39.2.2.2.1 &&& mL9 = 0 := by decide +kernel
theorem pwL_dots {g : pH} (hG : g_I eG g) (hx : xL g) (hR : R0 g) (hT : RL g) (x1 x2 : Int32) : pr_ RL 117 184 [.inl x1, .inl x2] 0 false g := by
  unfold pr_
  refine kc_go (k := kk_38) in_k38 rfl (by decide) hG hx (vs := [pvR 0, .inl x1, .inl x2]) (xs := [cv (pvR 0), x1.toInt, x2.toInt]) ⟨by decide, ⟨⟨pvR 0, rfl, rfl, rfl, ok_0⟩, ⟨.inl x1, rfl, rfl, rfl, ok_full32 _⟩, ⟨.inl x2, rfl, rfl, rfl, ok_full32 _⟩, trivial⟩, trivial, fun c hc => by cases hc⟩ rfl (n := 0) (by decide +kernel) (fun v1 g1 c1 G1 X1 M1 => ⟨v1, rfl, c1, ?_⟩)
  have Q1 := RL_f M1 ml9_36 hT
  exact kc_go (k := kk_39) in_k39 rfl (by decide) G1 X1 (vs := [pvR 196, .inl x1, .inl x2]) (xs := [cv (pvR 196), x1.toInt, x2.toInt]) ⟨by decide, ⟨⟨pvR 196, rfl, rfl, rfl, ok_this⟩, ⟨.inl x1, rfl, rfl, rfl, ok_full32 _⟩, ⟨.inl x2, rfl, rfl, rfl, ok_full32 _⟩, trivial⟩, trivial, fun c hc => by cases hc⟩ rfl (n := 0) (by decide +kernel) (fun v2 g2 c2 G2 X2 M2 => ⟨v2, rfl, c2, G2, X2, RL_f M2 ml9_37 Q1, fun z => by cases z⟩)
theorem ml9_38 : kk_34.2.2.2.1 &&& mL9 = 0 := by decide +kernel
theorem ml9_39 : kk_35.2.2.2.1 &&& mL9 = 0 := by decide +kernel
theorem pwL_lightBox {g : pH} (hG : g_I eG g) (hx : xL g) (hR : R0 g) (hT : RL g) (x1 x2 : Int32) : pr_ RL 132 219 [.inl x1, .inl x2] 1 false g := by
  unfold pr_
  refine kc_go (k := kk_34) in_k34 rfl (by decide) hG hx (vs := [pvR 0, .inl x1, .inl x2]) (xs := [cv (pvR 0), x1.toInt, x2.toInt]) ⟨by decide, ⟨⟨pvR 0, rfl, rfl, rfl, ok_0⟩, ⟨.inl x1, rfl, rfl, rfl, ok_full32 _⟩, ⟨.inl x2, rfl, rfl, rfl, ok_full32 _⟩, trivial⟩, trivial, fun c hc => by cases hc⟩ rfl (n := 1) (by decide +kernel) (fun v1 g1 c1 G1 X1 M1 => ⟨v1, rfl, c1, ?_⟩)
  have Q1 := RL_f M1 ml9_38 hT
  exact kc_go (k := kk_35) in_k35 rfl (by decide) G1 X1 (vs := [pvR 196, .inl x1, .inl x2]) (xs := [cv (pvR 196), x1.toInt, x2.toInt]) ⟨by decide, ⟨⟨pvR 196, rfl, rfl, rfl, ok_this⟩, ⟨.inl x1, rfl, rfl, rfl, ok_full32 _⟩, ⟨.inl x2, rfl, rfl, rfl, ok_full32 _⟩, trivial⟩, trivial, fun c hc => by cases hc⟩ rfl (n := 1) (by decide +kernel) (fun v2 g2 c2 G2 X2 M2 => ⟨v2, rfl, c2, G2, X2, RL_f M2 ml9_39 Q1, fun z => by cases z⟩)
theorem ml9_40 : kk_40.2.2.2.1 &&& mL9 = 0 := by decide +kernel
theorem ml9_41 : kk_41.2.2.2.1 &&& mL9 = 0 := by decide +kernel
theorem pwL_clue {g : pH} (hG : g_I eG g) (hx : xL g) (hR : R0 g) (hT : RL g) (x1 x2 : Int32) : pr_ RL 111 177 [.inl x1, .inl x2] 0 false g := by
  unfold pr_
  refine kc_go (k := kk_40) in_k40 rfl (by decide) hG hx (vs := [pvR 0, .inl x1, .inl x2]) (xs := [cv (pvR 0), x1.toInt, x2.toInt]) ⟨by decide, ⟨⟨pvR 0, rfl, rfl, rfl, ok_0⟩, ⟨.inl x1, rfl, rfl, rfl, ok_full32 _⟩, ⟨.inl x2, rfl, rfl, rfl, ok_full32 _⟩, trivial⟩, trivial, fun c hc => by cases hc⟩ rfl (n := 0) (by decide +kernel) (fun v1 g1 c1 G1 X1 M1 => ⟨v1, rfl, c1, ?_⟩)
  have Q1 := RL_f M1 ml9_40 hT
  exact kc_go (k := kk_41) in_k41 rfl (by decide) G1 X1 (vs := [pvR 196, .inl x1, .inl x2]) (xs := [cv (pvR 196), x1.toInt, x2.toInt]) ⟨by decide, ⟨⟨pvR 196, rfl, rfl, rfl, ok_this⟩, ⟨.inl x1, rfl, rfl, rfl, ok_full32 _⟩, ⟨.inl x2, rfl, rfl, rfl, ok_full32 _⟩, trivial⟩, trivial, fun c hc => by cases hc⟩ rfl (n := 0) (by decide +kernel) (fun v2 g2 c2 G2 X2 M2 => ⟨v2, rfl, c2, G2, X2, RL_f M2 ml9_41 Q1, fun z => by cases z⟩)
theorem ml9_42 : kk_42.2.2.2.1 &&& mL9 = 0 := by decide +kernel
theorem ml9_43 : Ws &&& mL9 = 0 := by decide +kernel
theorem pwL_spilt {g : pH} (hG : g_I eG g) (hx : xL g) (hR : R0 g) (hT : RL g) (x1 x2 : Int32) : pr_ RL 149 254 [.inl x1, .inl x2] 1 false g := by
  unfold pr_
  refine kc_go (k := kk_42) in_k42 rfl (by decide) hG hx (vs := [pvR 0, .inl x1, .inl x2]) (xs := [cv (pvR 0), x1.toInt, x2.toInt]) ⟨by decide, ⟨⟨pvR 0, rfl, rfl, rfl, ok_0⟩, ⟨.inl x1, rfl, rfl, rfl, ok_full32 _⟩, ⟨.inl x2, rfl, rfl, rfl, ok_full32 _⟩, trivial⟩, trivial, fun c hc => by cases hc⟩ rfl (n := 1) (by decide +kernel) (fun v1 g1 c1 G1 X1 M1 => ⟨v1, rfl, c1, ?_⟩)
  have Q1 := RL_f M1 ml9_42 hT
  exact sp9_run (n := x1.toInt) (w := x2.toInt) (by decide) G1 (i32_b _) (i32_b _) (fun z2 g2 v2 J2 t2 => ⟨_, rfl, rfl, J2.1, xL_K _ _ _ J2.2 Ws_1.2.1 X1, RL_f J2.2 ml9_43 Q1, fun z => by cases z⟩) (fun v2 z2 => ⟨_, rfl, rfl, G1, X1, Q1, fun z => by cases z⟩) rfl (congrArg some (oI_r x1)) (congrArg some (oI_r x2))
theorem ml9_44 : kk_43.2.2.2.1 &&& mL9 = 0 := by decide +kernel
theorem pwL_says {g : pH} (hG : g_I eG g) (hx : xL g) (hR : R0 g) (hT : RL g) (x1 x2 x3 x4 : Int32) : pr_ RL 142 243 [.inl x1, .inl x2, .inl x3, .inl x4] 1 false g := by
  unfold pr_
  refine kc_go (k := kk_43) in_k43 rfl (by decide) hG hx (vs := [pvR 0, .inl x1, .inl x2, .inl x3, .inl x4]) (xs := [cv (pvR 0), x1.toInt, x2.toInt, x3.toInt, x4.toInt]) ⟨by decide, ⟨⟨pvR 0, rfl, rfl, rfl, ok_0⟩, ⟨.inl x1, rfl, rfl, rfl, ok_full32 _⟩, ⟨.inl x2, rfl, rfl, rfl, ok_full32 _⟩, ⟨.inl x3, rfl, rfl, rfl, ok_full32 _⟩, ⟨.inl x4, rfl, rfl, rfl, ok_full32 _⟩, trivial⟩, trivial, fun c hc => by cases hc⟩ rfl (n := 1) (by decide +kernel) (fun v1 g1 c1 G1 X1 M1 => ⟨v1, rfl, c1, ?_⟩)
  have Q1 := RL_f M1 ml9_44 hT
  exact sy9_run (n := x1.toInt) (i := x2.toInt) (j := x3.toInt) (w := x4.toInt) (by decide) G1 (i32_b _) (i32_b _) (i32_b _) (i32_b _) (fun z2 g2 v2 J2 t2 => ⟨_, rfl, rfl, J2.1, xL_K _ _ _ J2.2 Ws_1.2.1 X1, RL_f J2.2 ml9_43 Q1, fun z => by cases z⟩) (fun v2 z2 => ⟨_, rfl, rfl, G1, X1, Q1, fun z => by cases z⟩) rfl (congrArg some (oI_r x1)) (congrArg some (oI_r x2)) (congrArg some (oI_r x3)) (congrArg some (oI_r x4))
theorem ml9_45 : kk_44.2.2.2.1 &&& mL9 = 0 := by decide +kernel
theorem ml9_46 : kk_45.2.2.2.1 &&& mL9 = 0 := by decide +kernel
theorem pwL_shadow {g : pH} (hG : g_I eG g) (hx : xL g) (hR : R0 g) (hT : RL g) (x1 x2 x3 : Int32) : pr_ RL 145 246 [.inl x1, .inl x2, .inl x3] 0 false g := by
  unfold pr_
  refine kc_go (k := kk_44) in_k44 rfl (by decide) hG hx (vs := [pvR 0, .inl x1, .inl x2, .inl x3]) (xs := [cv (pvR 0), x1.toInt, x2.toInt, x3.toInt]) ⟨by decide, ⟨⟨pvR 0, rfl, rfl, rfl, ok_0⟩, ⟨.inl x1, rfl, rfl, rfl, ok_full32 _⟩, ⟨.inl x2, rfl, rfl, rfl, ok_full32 _⟩, ⟨.inl x3, rfl, rfl, rfl, ok_full32 _⟩, trivial⟩, trivial, fun c hc => by cases hc⟩ rfl (n := 0) (by decide +kernel) (fun v1 g1 c1 G1 X1 M1 => ⟨v1, rfl, c1, ?_⟩)
  have Q1 := RL_f M1 ml9_45 hT
  exact kc_go (k := kk_45) in_k45 rfl (by decide) G1 X1 (vs := [pvR 196, .inl x1, .inl x2, .inl x3]) (xs := [cv (pvR 196), x1.toInt, x2.toInt, x3.toInt]) ⟨by decide, ⟨⟨pvR 196, rfl, rfl, rfl, ok_this⟩, ⟨.inl x1, rfl, rfl, rfl, ok_full32 _⟩, ⟨.inl x2, rfl, rfl, rfl, ok_full32 _⟩, ⟨.inl x3, rfl, rfl, rfl, ok_full32 _⟩, trivial⟩, trivial, fun c hc => by cases hc⟩ rfl (n := 0) (by decide +kernel) (fun v2 g2 c2 G2 X2 M2 => ⟨v2, rfl, c2, G2, X2, RL_f M2 ml9_46 Q1, fun z => by cases z⟩)
theorem ml9_47 : kk_46.2.2.2.1 &&& mL9 = 0 := by decide +kernel
theorem ml9_48 : kk_47.2.2.2.1 &&& mL9 = 0 := by decide +kernel
theorem pwL_link {g : pH} (hG : g_I eG g) (hx : xL g) (hR : R0 g) (hT : RL g) (x1 x2 : Int32) : pr_ RL 133 220 [.inl x1, .inl x2] 0 false g := by
  unfold pr_
  refine kc_go (k := kk_46) in_k46 rfl (by decide) hG hx (vs := [pvR 0, .inl x1, .inl x2]) (xs := [cv (pvR 0), x1.toInt, x2.toInt]) ⟨by decide, ⟨⟨pvR 0, rfl, rfl, rfl, ok_0⟩, ⟨.inl x1, rfl, rfl, rfl, ok_full32 _⟩, ⟨.inl x2, rfl, rfl, rfl, ok_full32 _⟩, trivial⟩, trivial, fun c hc => by cases hc⟩ rfl (n := 0) (by decide +kernel) (fun v1 g1 c1 G1 X1 M1 => ⟨v1, rfl, c1, ?_⟩)
  have Q1 := RL_f M1 ml9_47 hT
  exact kc_go (k := kk_47) in_k47 rfl (by decide) G1 X1 (vs := [pvR 196, .inl x1, .inl x2]) (xs := [cv (pvR 196), x1.toInt, x2.toInt]) ⟨by decide, ⟨⟨pvR 196, rfl, rfl, rfl, ok_this⟩, ⟨.inl x1, rfl, rfl, rfl, ok_full32 _⟩, ⟨.inl x2, rfl, rfl, rfl, ok_full32 _⟩, trivial⟩, trivial, fun c hc => by cases hc⟩ rfl (n := 0) (by decide +kernel) (fun v2 g2 c2 G2 X2 M2 => ⟨v2, rfl, c2, G2, X2, RL_f M2 ml9_48 Q1, fun z => by cases z⟩)
theorem ml9_49 : kk_48.2.2.2.1 &&& mL9 = 0 := by decide +kernel
theorem ml9_50 : kk_49.2.2.2.1 &&& mL9 = 0 := by decide +kernel
theorem pwL_leftOut {g : pH} (hG : g_I eG g) (hx : xL g) (hR : R0 g) (hT : RL g) (x1 x2 : Int32) : pr_ RL 131 218 [.inl x1, .inl x2] 0 false g := by
  unfold pr_
  refine kc_go (k := kk_48) in_k48 rfl (by decide) hG hx (vs := [pvR 0, .inl x1, .inl x2]) (xs := [cv (pvR 0), x1.toInt, x2.toInt]) ⟨by decide, ⟨⟨pvR 0, rfl, rfl, rfl, ok_0⟩, ⟨.inl x1, rfl, rfl, rfl, ok_full32 _⟩, ⟨.inl x2, rfl, rfl, rfl, ok_full32 _⟩, trivial⟩, trivial, fun c hc => by cases hc⟩ rfl (n := 0) (by decide +kernel) (fun v1 g1 c1 G1 X1 M1 => ⟨v1, rfl, c1, ?_⟩)
  have Q1 := RL_f M1 ml9_49 hT
  exact kc_go (k := kk_49) in_k49 rfl (by decide) G1 X1 (vs := [pvR 196, .inl x1, .inl x2]) (xs := [cv (pvR 196), x1.toInt, x2.toInt]) ⟨by decide, ⟨⟨pvR 196, rfl, rfl, rfl, ok_this⟩, ⟨.inl x1, rfl, rfl, rfl, ok_full32 _⟩, ⟨.inl x2, rfl, rfl, rfl, ok_full32 _⟩, trivial⟩, trivial, fun c hc => by cases hc⟩ rfl (n := 0) (by decide +kernel) (fun v2 g2 c2 G2 X2 M2 => ⟨v2, rfl, c2, G2, X2, RL_f M2 ml9_50 Q1, fun z => by cases z⟩)
theorem ml9_51 : kk_50.2.2.2.1 &&& mL9 = 0 := by decide +kernel
theorem ml9_52 : kk_51.2.2.2.1 &&& mL9 = 0 := by decide +kernel
theorem pwL_lamp {g : pH} (hG : g_I eG g) (hx : xL g) (hR : R0 g) (hT : RL g) (x1 x2 x3 : Int32) : pr_ RL 127 210 [.inl x1, .inl x2, .inl x3] 1 false g := by
  unfold pr_
  refine kc_go (k := kk_50) in_k50 rfl (by decide) hG hx (vs := [pvR 0, .inl x1, .inl x2, .inl x3]) (xs := [cv (pvR 0), x1.toInt, x2.toInt, x3.toInt]) ⟨by decide, ⟨⟨pvR 0, rfl, rfl, rfl, ok_0⟩, ⟨.inl x1, rfl, rfl, rfl, ok_full32 _⟩, ⟨.inl x2, rfl, rfl, rfl, ok_full32 _⟩, ⟨.inl x3, rfl, rfl, rfl, ok_full32 _⟩, trivial⟩, trivial, fun c hc => by cases hc⟩ rfl (n := 1) (by decide +kernel) (fun v1 g1 c1 G1 X1 M1 => ⟨v1, rfl, c1, ?_⟩)
  have Q1 := RL_f M1 ml9_51 hT
  exact kc_go (k := kk_51) in_k51 rfl (by decide) G1 X1 (vs := [pvR 196, .inl x1, .inl x2, .inl x3]) (xs := [cv (pvR 196), x1.toInt, x2.toInt, x3.toInt]) ⟨by decide, ⟨⟨pvR 196, rfl, rfl, rfl, ok_this⟩, ⟨.inl x1, rfl, rfl, rfl, ok_full32 _⟩, ⟨.inl x2, rfl, rfl, rfl, ok_full32 _⟩, ⟨.inl x3, rfl, rfl, rfl, ok_full32 _⟩, trivial⟩, trivial, fun c hc => by cases hc⟩ rfl (n := 1) (by decide +kernel) (fun v2 g2 c2 G2 X2 M2 => ⟨v2, rfl, c2, G2, X2, RL_f M2 ml9_52 Q1, fun z => by cases z⟩)
theorem ml9_53 : kk_52.2.2.2.1 &&& mL9 = 0 := by decide +kernel
theorem ml9_54 : kk_53.2.2.2.1 &&& mL9 = 0 := by decide +kernel
theorem pwL_hand {g : pH} (hG : g_I eG g) (hx : xL g) (hR : R0 g) (hT : RL g) (x1 : Int32) : pr_ RL 121 195 [.inl x1] 1 false g := by
  unfold pr_
  refine kc_go (k := kk_52) in_k52 rfl (by decide) hG hx (vs := [pvR 0, .inl x1]) (xs := [cv (pvR 0), x1.toInt]) ⟨by decide, ⟨⟨pvR 0, rfl, rfl, rfl, ok_0⟩, ⟨.inl x1, rfl, rfl, rfl, ok_full32 _⟩, trivial⟩, trivial, fun c hc => by cases hc⟩ rfl (n := 1) (by decide +kernel) (fun v1 g1 c1 G1 X1 M1 => ⟨v1, rfl, c1, ?_⟩)
  have Q1 := RL_f M1 ml9_53 hT
  exact kc_go (k := kk_53) in_k53 rfl (by decide) G1 X1 (vs := [pvR 196, .inl x1]) (xs := [cv (pvR 196), x1.toInt]) ⟨by decide, ⟨⟨pvR 196, rfl, rfl, rfl, ok_this⟩, ⟨.inl x1, rfl, rfl, rfl, ok_full32 _⟩, trivial⟩, trivial, fun c hc => by cases hc⟩ rfl (n := 1) (by decide +kernel) (fun v2 g2 c2 G2 X2 M2 => ⟨v2, rfl, c2, G2, X2, RL_f M2 ml9_54 Q1, fun z => by cases z⟩)
theorem ml9_55 : kk_54.2.2.2.1 &&& mL9 = 0 := by decide +kernel
theorem ml9_56 : Wp &&& mL9 = 0 := by decide +kernel
theorem pwL_putIn {g : pH} (hG : g_I eG g) (hx : xL g) (hR : R0 g) (hT : RL g) : pr_ RL 140 232 [] 0 false g := by
  unfold pr_
  refine kc_go (k := kk_54) in_k54 rfl (by decide) hG hx (vs := [pvR 0]) (xs := [cv (pvR 0)]) ⟨by decide, ⟨⟨pvR 0, rfl, rfl, rfl, ok_0⟩, trivial⟩, trivial, fun c hc => by cases hc⟩ rfl (n := 0) (by decide +kernel) (fun v1 g1 c1 G1 X1 M1 => ⟨v1, rfl, c1, ?_⟩)
  have Q1 := RL_f M1 ml9_55 hT
  exact pi_run (by decide) (by decide) G1 X1 (fun g2 z2 J2 => ⟨_, rfl, rfl, J2.1, xL_K _ _ _ J2.2 Wp_1.2.2.1 X1, RL_f J2.2 ml9_56 Q1, fun z => by cases z⟩) rfl
theorem ml9_57 : kk_55.2.2.2.1 &&& mL9 = 0 := by decide +kernel
theorem ml9_58 : kk_56.2.2.2.1 &&& mL9 = 0 := by decide +kernel
theorem pwL_seed {g : pH} (hG : g_I eG g) (hx : xL g) (hR : R0 g) (hT : RL g) (x1 : Int32) : pr_ RL 144 245 [.inl x1] 0 false g := by
  unfold pr_
  refine kc_go (k := kk_55) in_k55 rfl (by decide) hG hx (vs := [pvR 0, .inl x1]) (xs := [cv (pvR 0), x1.toInt]) ⟨by decide, ⟨⟨pvR 0, rfl, rfl, rfl, ok_0⟩, ⟨.inl x1, rfl, rfl, rfl, ok_full32 _⟩, trivial⟩, trivial, fun c hc => by cases hc⟩ rfl (n := 0) (by decide +kernel) (fun v1 g1 c1 G1 X1 M1 => ⟨v1, rfl, c1, ?_⟩)
  have Q1 := RL_f M1 ml9_57 hT
  exact kc_go (k := kk_56) in_k56 rfl (by decide) G1 X1 (vs := [pvR 196, .inl x1]) (xs := [cv (pvR 196), x1.toInt]) ⟨by decide, ⟨⟨pvR 196, rfl, rfl, rfl, ok_this⟩, ⟨.inl x1, rfl, rfl, rfl, ok_full32 _⟩, trivial⟩, trivial, fun c hc => by cases hc⟩ rfl (n := 0) (by decide +kernel) (fun v2 g2 c2 G2 X2 M2 => ⟨v2, rfl, c2, G2, X2, RL_f M2 ml9_58 Q1, fun z => by cases z⟩)
theorem ml9_59 : kk_57.2.2.2.1 &&& mL9 = 0 := by decide +kernel
theorem ml9_60 : kk_58.2.2.2.1 &&& mL9 = 0 := by decide +kernel
theorem pwL_keep {g : pH} (hG : g_I eG g) (hx : xL g) (hR : R0 g) (hT : RL g) : pr_ RL 126 209 [] 0 false g := by
  unfold pr_
  refine kc_go (k := kk_57) in_k57 rfl (by decide) hG hx (vs := [pvR 0]) (xs := [cv (pvR 0)]) ⟨by decide, ⟨⟨pvR 0, rfl, rfl, rfl, ok_0⟩, trivial⟩, trivial, fun c hc => by cases hc⟩ rfl (n := 0) (by decide +kernel) (fun v1 g1 c1 G1 X1 M1 => ⟨v1, rfl, c1, ?_⟩)
  have Q1 := RL_f M1 ml9_59 hT
  exact kc_go (k := kk_58) in_k58 rfl (by decide) G1 X1 (vs := [pvR 196]) (xs := [cv (pvR 196)]) ⟨by decide, ⟨⟨pvR 196, rfl, rfl, rfl, ok_this⟩, trivial⟩, trivial, fun c hc => by cases hc⟩ rfl (n := 0) (by decide +kernel) (fun v2 g2 c2 G2 X2 M2 => ⟨v2, rfl, c2, G2, X2, RL_f M2 ml9_60 Q1, fun z => by cases z⟩)
theorem ml9_61 : kk_59.2.2.2.1 &&& mL9 = 0 := by decide +kernel
theorem ml9_62 : kk_60.2.2.2.1 &&& mL9 = 0 := by decide +kernel
theorem pwL_undo {g : pH} (hG : g_I eG g) (hx : xL g) (hR : R0 g) (hT : RL g) : pr_ RL 160 270 [] 0 false g := by
  unfold pr_
  refine kc_go (k := kk_59) in_k59 rfl (by decide) hG hx (vs := [pvR 0]) (xs := [cv (pvR 0)]) ⟨by decide, ⟨⟨pvR 0, rfl, rfl, rfl, ok_0⟩, trivial⟩, trivial, fun c hc => by cases hc⟩ rfl (n := 0) (by decide +kernel) (fun v1 g1 c1 G1 X1 M1 => ⟨v1, rfl, c1, ?_⟩)
  have Q1 := RL_f M1 ml9_61 hT
  exact kc_go (k := kk_60) in_k60 rfl (by decide) G1 X1 (vs := [pvR 196]) (xs := [cv (pvR 196)]) ⟨by decide, ⟨⟨pvR 196, rfl, rfl, rfl, ok_this⟩, trivial⟩, trivial, fun c hc => by cases hc⟩ rfl (n := 0) (by decide +kernel) (fun v2 g2 c2 G2 X2 M2 => ⟨v2, rfl, c2, G2, X2, RL_f M2 ml9_62 Q1, fun z => by cases z⟩)
theorem ml9_63 : kk_61.2.2.2.1 &&& mL9 = 0 := by decide +kernel
theorem ml9_64 : kk_62.2.2.2.1 &&& mL9 = 0 := by decide +kernel
theorem pwL_check {g : pH} (hG : g_I eG g) (hx : xL g) (hR : R0 g) (hT : RL g) (x1 x2 : Int32) : pr_ RL 110 174 [.inl x1, .inl x2] 0 false g := by
  unfold pr_
  refine kc_go (k := kk_61) in_k61 rfl (by decide) hG hx (vs := [pvR 0, .inl x1, .inl x2]) (xs := [cv (pvR 0), x1.toInt, x2.toInt]) ⟨by decide, ⟨⟨pvR 0, rfl, rfl, rfl, ok_0⟩, ⟨.inl x1, rfl, rfl, rfl, ok_full32 _⟩, ⟨.inl x2, rfl, rfl, rfl, ok_full32 _⟩, trivial⟩, trivial, fun c hc => by cases hc⟩ rfl (n := 0) (by decide +kernel) (fun v1 g1 c1 G1 X1 M1 => ⟨v1, rfl, c1, ?_⟩)
  have Q1 := RL_f M1 ml9_63 hT
  exact kc_go (k := kk_62) in_k62 rfl (by decide) G1 X1 (vs := [pvR 196, .inl x1, .inl x2]) (xs := [cv (pvR 196), x1.toInt, x2.toInt]) ⟨by decide, ⟨⟨pvR 196, rfl, rfl, rfl, ok_this⟩, ⟨.inl x1, rfl, rfl, rfl, ok_full32 _⟩, ⟨.inl x2, rfl, rfl, rfl, ok_full32 _⟩, trivial⟩, trivial, fun c hc => by cases hc⟩ rfl (n := 0) (by decide +kernel) (fun v2 g2 c2 G2 X2 M2 => ⟨v2, rfl, c2, G2, X2, RL_f M2 ml9_64 Q1, fun z => by cases z⟩)
theorem ml9_65 : kk_63.2.2.2.1 &&& mL9 = 0 := by decide +kernel
theorem ml9_66 : kk_64.2.2.2.1 &&& mL9 = 0 := by decide +kernel
theorem pwL_count {g : pH} (hG : g_I eG g) (hx : xL g) (hR : R0 g) (hT : RL g) (x1 : Int32) : pr_ RL 115 182 [.inl x1] 0 false g := by
  unfold pr_
  refine kc_go (k := kk_63) in_k63 rfl (by decide) hG hx (vs := [pvR 0, .inl x1]) (xs := [cv (pvR 0), x1.toInt]) ⟨by decide, ⟨⟨pvR 0, rfl, rfl, rfl, ok_0⟩, ⟨.inl x1, rfl, rfl, rfl, ok_full32 _⟩, trivial⟩, trivial, fun c hc => by cases hc⟩ rfl (n := 0) (by decide +kernel) (fun v1 g1 c1 G1 X1 M1 => ⟨v1, rfl, c1, ?_⟩)
  have Q1 := RL_f M1 ml9_65 hT
  exact kc_go (k := kk_64) in_k64 rfl (by decide) G1 X1 (vs := [pvR 196, .inl x1]) (xs := [cv (pvR 196), x1.toInt]) ⟨by decide, ⟨⟨pvR 196, rfl, rfl, rfl, ok_this⟩, ⟨.inl x1, rfl, rfl, rfl, ok_full32 _⟩, trivial⟩, trivial, fun c hc => by cases hc⟩ rfl (n := 0) (by decide +kernel) (fun v2 g2 c2 G2 X2 M2 => ⟨v2, rfl, c2, G2, X2, RL_f M2 ml9_66 Q1, fun z => by cases z⟩)
theorem nl_b {K K2 : Nat} (h : (K = 156 ∧ K2 = 165) ∨ (K = 165 ∧ K2 = 156)) : ((lNk K).testBit (cn 211) = false ∧ (lNk K).testBit (cn 196 + 17) = false ∧ (lNk K).testBit (cn 164 + 0) = false ∧ (lNk K).testBit (cn 164 + 1) = false) ∧ ((lNk K).testBit (cn K2 + 0) = false ∧ (lNk K).testBit (cn (K2 + 1)) = false ∧ (lNk K).testBit (cn (K2 + 2)) = false ∧ (lNk K).testBit (cn (K2 + 3)) = false ∧ (lNk K).testBit (cn (K2 + 4)) = false ∧ (lNk K).testBit (cn (K2 + 5)) = false ∧ (lNk K).testBit (cn (K2 + 6)) = false) ∧ ((lNk K).testBit (cn 196 + 35) = false ∧ (lNk K).testBit (cn 222) = false ∧ (lNk K).testBit (cn 223) = false ∧ (lNk K).testBit (cn 224) = false ∧ (lNk K).testBit (cn 225) = false ∧ (lNk K).testBit (cn 226) = false) ∧ (lOk K).testBit (cn 211) = false ∧ (lOk K).testBit (cn 196 + 17) = false := by rcases h with ⟨rfl, rfl⟩ | ⟨rfl, rfl⟩ <;> decide +kernel
theorem nl_y {K : Nat} (hK : lK K) : (jY.testBit (cn 164 + 0) = false ∧ jY.testBit (cn 164 + 1) = false) ∧ jY.testBit (cn K + 0) = false ∧ jY.testBit (cn (K + 1)) = false ∧ jY.testBit (cn (K + 2)) = false ∧ jY.testBit (cn (K + 3)) = false ∧ jY.testBit (cn (K + 4)) = false ∧ jY.testBit (cn (K + 5)) = false ∧ jY.testBit (cn (K + 6)) = false := by rcases hK with rfl | rfl <;> decide +kernel
theorem lCo_m {W : Nat} {g g1 : pH} (hM : f_M W g g1) (h : W.testBit (cn 196 + 35) = false ∧ W.testBit (cn 222) = false ∧ W.testBit (cn 223) = false ∧ W.testBit (cn 224) = false ∧ W.testBit (cn 225) = false ∧ W.testBit (cn 226) = false) : lCo g g1 := by
  obtain ⟨e0, e1, e2, e3, e4, e5⟩ := h
  exact ⟨cF_M hM e0, fA_M hM e1, fA_M hM e2, fA_M hM e3, fA_M hM e4, fA_M hM e5⟩
theorem rLx_m {W K : Nat} {g g1 : pH} (hM : f_M W g g1) (h : W.testBit (cn K + 0) = false ∧ W.testBit (cn (K + 1)) = false ∧ W.testBit (cn (K + 2)) = false ∧ W.testBit (cn (K + 3)) = false ∧ W.testBit (cn (K + 4)) = false ∧ W.testBit (cn (K + 5)) = false ∧ W.testBit (cn (K + 6)) = false) (hC : lCo g g1) (hx : rLx g K) : rLx g1 K := by
  obtain ⟨e0, e1, e2, e3, e4, e5, e6⟩ := h
  exact rLx_c (cF_M hM e0) (fA_M hM e1) (fA_M hM e2) (fA_M hM e3) (fA_M hM e4) (fA_M hM e5) (fA_M hM e6) hC hx
theorem pr_ad {R R' : pH → Prop} {μ ν : Nat} {as : List pv} {τ : Nat} {q : Bool} {g : pH} (h : pr_ R μ ν as τ q g) (h' : t_X 99 μ 0 (px_ar 0 (pvR 0 :: as)) [] g (fun o => ∃ v, o.1 = some v ∧ t_X 99 ν 0 (px_ar 0 (pvR 196 :: as)) [] o.2 (fun o2 => R' o2.2))) : pr_ (fun g => R g ∧ R' g) μ ν as τ q g := t_mono (t_and h h') (fun o ho => by
  obtain ⟨⟨v, h1, h2, h3⟩, v', h4, h5⟩ := ho
  refine ⟨v, h1, h2, t_mono (t_and h3 h5) (fun o2 ho2 => ?_)⟩
  obtain ⟨⟨w, k1, k2, k3, k4, k5, k6⟩, k7⟩ := ho2
  exact ⟨w, k1, k2, k3, k4, ⟨k5, k7⟩, k6⟩)
theorem pL_K {g : pH} (hG : g_I eG g) (hR : R0 g) {K K2 : Nat} (hKK : (K = 156 ∧ K2 = 165) ∨ (K = 165 ∧ K2 = 156)) (hL : rL g K2 K) (x1 : Int32) : t_X 99 129 0 (px_ar 0 [pvR 0, .inl x1]) [] g (fun o => ∃ v, o.1 = some v ∧ t_X 99 213 0 (px_ar 0 [pvR 196, .inl x1]) [] o.2 (fun o2 => RL o2.2)) := by
  have hK : lK K := by rcases hKK with ⟨h, -⟩ | ⟨h, -⟩ <;> rw [h]; { exact Or.inl rfl }; { exact Or.inr rfl }
  have hK2 : lK K2 := by rcases hKK with ⟨-, h⟩ | ⟨-, h⟩ <;> rw [h]; { exact Or.inr rfl }; { exact Or.inl rfl }
  obtain ⟨⟨b1, b2, b3, b4⟩, b5, b6, b7, b8⟩ := nl_b hKK
  obtain ⟨⟨y1, y2⟩, y3⟩ := nl_y hK
  obtain ⟨-, y4⟩ := nl_y hK2
  have hb := cb_0_1 hG
  have hl := hR.2
  have hT := hR.1.2.1
  have up2 : ∀ g2 : pH, rL g2 K2 K → RL g2 := fun g2 h => by
    rcases hKK with ⟨h1, h2⟩ | ⟨h1, h2⟩
    · rw [h1, h2] at h
      exact Or.inr h
    · rw [h1, h2] at h
      exact Or.inl h
  have up1 : ∀ g2 : pH, rL g2 K K2 → RL g2 := fun g2 h => by
    rcases hKK with ⟨h1, h2⟩ | ⟨h1, h2⟩
    · rw [h1, h2] at h
      exact Or.inl h
    · rw [h1, h2] at h
      exact Or.inr h
  have key : ∀ (W : Nat) (g1 : pH), J_ W g g1 → W.testBit (cn 211) = false → W.testBit (cn 196 + 17) = false → ∀ (o v le st co en : tC) (r : lZ), ((1 ≤ x1.toInt ∧ x1.toInt ≤ 240 ∧ x1.toInt ≤ cF g 0 1) → lWs (tH (fA g 1) x1.toInt) x1.toInt 0 0 o v 0 le st co en r) → ((1 ≤ x1.toInt ∧ x1.toInt ≤ 240 ∧ x1.toInt ≤ cF g 0 1) → yC r) → (¬ (1 ≤ x1.toInt ∧ x1.toInt ≤ 240 ∧ x1.toInt ≤ cF g 0 1) → RL g1) → ((1 ≤ x1.toInt ∧ x1.toInt ≤ 240 ∧ x1.toInt ≤ cF g 0 1) → yP g1 x1.toInt (fun o2 => RL o2.2) r) → t_X 99 213 0 (px_ar 0 [pvR 196, .inl x1]) [] g1 (fun o2 => RL o2.2) := by
    intro W g1 J1 w1 w2 o v le st co en r hr hc hZ hP
    have e17 : cF g1 196 17 = cF g 0 1 := (cF_M J1.2 w2).trans hl.symm
    have hS0 : xS g1 g1 (cF g1 196 17) (cF g1 196 18) (cF g1 196 19) (cF g1 196 32) (cF g1 196 34) := S_0 J1.1
    exact lwm_run (by decide) hS0 (by omega) (B := fA g 1) (by rw [fA_M J1.2 w1]; exact hT) (i32_b x1) (P := fun o2 => RL o2.2) (fun h => hZ (by rw [e17] at h; exact h)) (o := o) (v := v) (le := le) (st := st) (co := co) (en := en) (r := r) (fun h => hr (by rw [e17] at h; exact h)) (fun h => hc (by rw [e17] at h; exact h)) (fun h => hP (by rw [e17] at h; exact h)) rfl (congrArg some (oI_r x1))
  have hS : sE lhk [] 0 g g [cF g 0 1] [] := S_0 hG
  refine clx_run hK hK2 (by decide) hS hb hL.2.1 hL.1 (i32_b x1) (fun h => ?_) (fun h g1 f o v le st co en J1 _ _ hx => ?_) (fun h g1 k1 c1 o v le st co en o1 v1 le1 st1 co1 en1 J1 _ z1 z2 z3 z4 z5 z6 z7 z8 z9 hc hx => ?_) rfl (congrArg some (oI_r x1))
  · exact ⟨_, rfl, key 0 g (J_rf hG) (Nat.zero_testBit _) (Nat.zero_testBit _) (fun _ => 0) (fun _ => 0) (fun _ => 0) (fun _ => 0) (fun _ => 0) (fun _ => 0) (.inl (-1)) (fun z => absurd z h) (fun _ => trivial) (fun _ => up2 g hL) (fun z => absurd z h)⟩
  · refine ⟨_, rfl, key _ g1 J1 b1 b2 o v le st co en (.inl f) (fun _ => hx) (fun _ => trivial) (fun z => absurd h z) (fun _ => ?_)⟩
    intro g2 J2 _ hC
    refine up2 g2 ⟨((J2.2.1 164 0 y1).2.2).trans (((J1.2.1 164 0 b3).2.2).trans hL.1), ((J2.2.1 164 1 y2).2.2).trans (((J1.2.1 164 1 b4).2.2).trans hL.2.1), ?_⟩
    exact rLx_m J2.2 y4 hC (rLx_m J1.2 b5 (lCo_m J1.2 b6) hL.2.2)
  · refine ⟨_, rfl, key _ g1 J1 b7 b8 o v le st co en (.inr (x1.toInt, k1, o1, v1, c1, le1, st1, co1, en1)) (fun _ => hx) (fun _ => ⟨by omega, by omega⟩) (fun z => absurd h z) (fun _ => ?_)⟩
    intro _ hLP g2 J2 _ e35 eC eX
    unfold lP at hLP
    obtain ⟨w0, w1, w2, w3, w4, w5, w6⟩ := y3
    refine up1 g2 ⟨((J2.2.1 164 0 y1).2.2).trans z1, ((J2.2.1 164 1 y2).2.2).trans z2, k1, c1, o1, v1, le1, st1, co1, en1, by omega, hc.2, wCl_law hx, ⟨(cF_M J2.2 w0).trans z3, (fA_M J2.2 w1).trans z4, (fA_M J2.2 w2).trans z5, (fA_M J2.2 w3).trans z6, (fA_M J2.2 w4).trans z7, (fA_M J2.2 w5).trans z8, (fA_M J2.2 w6).trans z9⟩, e35, fun j hj => (eC j hj).1, eX⟩
/-- both sides' state with the law in use -/
def R8 (g : pH) : Prop := R0 g ∧ RL g
theorem p8_law {g : pH} (hG : g_I eG g) (hx : xL g) (hR : R8 g) (x1 : Int32) : pr_ R8 129 213 [.inl x1] 0 false g := by
  refine pr_ad (pr_law hG hx hR.1 x1) ?_
  rcases hR.2 with h | h
  · exact pL_K hG hR.1 (Or.inr ⟨rfl, rfl⟩) h x1
  · exact pL_K hG hR.1 (Or.inl ⟨rfl, rfl⟩) h x1
theorem pr_an2 {R R' : pH → Prop} {μ ν : Nat} {as : List pv} {τ : Nat} {q q' : Bool} {g : pH} (h : pr_ R μ ν as τ q g) (h' : pr_ R' μ ν as τ q' g) : pr_ (fun g => R g ∧ R' g) μ ν as τ (q || q') g := t_mono (t_and h h') (fun o ho => by
  obtain ⟨⟨v, h1, h2, h3⟩, v', h4, h5, h6⟩ := ho
  obtain rfl : v = v' := Option.some.inj (h1.symm.trans h4)
  refine ⟨v, h1, h2, t_mono (t_and h3 h6) (fun o2 ho2 => ?_)⟩
  obtain ⟨⟨w, k1, k2, k3, k4, k5, k6⟩, w', k7, k8, k9, k10, k11, k12⟩ := ho2
  obtain rfl : w = w' := Option.some.inj (k1.symm.trans k7)
  refine ⟨w, k1, k2, k3, k4, ⟨k5, k11⟩, fun z => ?_⟩
  rw [Bool.or_eq_true] at z
  exact z.elim k6 k12)
theorem p8_feed {g : pH} (hG : g_I eG g) (hx : xL g) (hR : R8 g) (x1 x2 x3 x4 x5 : Int32) : pr_ R8 119 189 [.inl x1, .inl x2, .inl x3, .inl x4, .inl x5] 0 true g := by
  have h := pr_an2 (q := true) (q' := false) (pr_feed hG hx hR.1 x1 x2 x3 x4 x5) (pwL_feed hG hx hR.1 hR.2 x1 x2 x3 x4 x5)
  exact h
theorem p8_slide {g : pH} (hG : g_I eG g) (hx : xL g) (hR : R8 g) (x1 x2 x3 x4 : Int32) : pr_ R8 147 251 [.inl x1, .inl x2, .inl x3, .inl x4] 0 true g := by
  have h := pr_an2 (q := true) (q' := false) (pr_slide hG hx hR.1 x1 x2 x3 x4) (pwL_slide hG hx hR.1 hR.2 x1 x2 x3 x4)
  exact h
theorem p8_put {g : pH} (hG : g_I eG g) (hx : xL g) (hR : R8 g) (x1 x2 : Int32) : pr_ R8 139 231 [.inl x1, .inl x2] 0 true g := by
  have h := pr_an2 (q := true) (q' := false) (pr_put hG hx hR.1 x1 x2) (pwL_put hG hx hR.1 hR.2 x1 x2)
  exact h
theorem p8_day {g : pH} (hG : g_I eG g) (hx : xL g) (hR : R8 g) (x1 x2 : Int32) : pr_ R8 116 183 [.inl x1, .inl x2] 0 true g := by
  have h := pr_an2 (q := true) (q' := false) (pr_day hG hx hR.1 x1 x2) (pwL_day hG hx hR.1 hR.2 x1 x2)
  exact h
theorem p8_gone {g : pH} (hG : g_I eG g) (hx : xL g) (hR : R8 g) (x1 : Int32) : pr_ R8 120 194 [.inl x1] 0 true g := by
  have h := pr_an2 (q := true) (q' := false) (pr_gone hG hx hR.1 x1) (pwL_gone hG hx hR.1 hR.2 x1)
  exact h
theorem p8_looker {g : pH} (hG : g_I eG g) (hx : xL g) (hR : R8 g) (x1 x2 x3 : Int32) : pr_ R8 134 221 [.inl x1, .inl x2, .inl x3] 0 false g := by
  have h := pr_an2 (q := false) (q' := false) (pr_looker hG hx hR.1 x1 x2 x3) (pwL_looker hG hx hR.1 hR.2 x1 x2 x3)
  exact h
theorem p8_lamps {g : pH} (hG : g_I eG g) (hx : xL g) (hR : R8 g) (x1 : Int32) : pr_ R8 128 211 [.inl x1] 0 false g := by
  have h := pr_an2 (q := false) (q' := false) (pr_lamps hG hx hR.1 x1) (pwL_lamps hG hx hR.1 hR.2 x1)
  exact h
theorem p8_tray {g : pH} (hG : g_I eG g) (hx : xL g) (hR : R8 g) (x1 : Int32) : pr_ R8 157 264 [.inl x1] 0 false g := by
  have h := pr_an2 (q := false) (q' := false) (pr_tray hG hx hR.1 x1) (pwL_tray hG hx hR.1 hR.2 x1)
  exact h
theorem p8_ways {g : pH} (hG : g_I eG g) (hx : xL g) (hR : R8 g) (x1 x2 x3 : Int32) : pr_ R8 164 273 [.inl x1, .inl x2, .inl x3] 0 false g := by
  have h := pr_an2 (q := false) (q' := false) (pr_ways hG hx hR.1 x1 x2 x3) (pwL_ways hG hx hR.1 hR.2 x1 x2 x3)
  exact h
theorem p8_shown {g : pH} (hG : g_I eG g) (hx : xL g) (hR : R8 g) (x1 x2 x3 : Int32) : pr_ R8 146 247 [.inl x1, .inl x2, .inl x3] 0 false g := by
  have h := pr_an2 (q := false) (q' := false) (pr_shown hG hx hR.1 x1 x2 x3) (pwL_shown hG hx hR.1 hR.2 x1 x2 x3)
  exact h
theorem p8_slideIs {g : pH} (hG : g_I eG g) (hx : xL g) (hR : R8 g) (x1 x2 : Int32) : pr_ R8 148 252 [.inl x1, .inl x2] 0 false g := by
  have h := pr_an2 (q := false) (q' := false) (pr_slideIs hG hx hR.1 x1 x2) (pwL_slideIs hG hx hR.1 hR.2 x1 x2)
  exact h
theorem p8_inTray {g : pH} (hG : g_I eG g) (hx : xL g) (hR : R8 g) (x1 : Int32) : pr_ R8 122 200 [.inl x1] 0 false g := by
  have h := pr_an2 (q := false) (q' := false) (pr_inTray hG hx hR.1 x1) (pwL_inTray hG hx hR.1 hR.2 x1)
  exact h
theorem p8_evening {g : pH} (hG : g_I eG g) (hx : xL g) (hR : R8 g) : pr_ R8 118 187 [] 0 false g := by
  have h := pr_an2 (q := false) (q' := false) (pr_evening hG hx hR.1) (pwL_evening hG hx hR.1 hR.2)
  exact h
theorem p8_tried {g : pH} (hG : g_I eG g) (hx : xL g) (hR : R8 g) (x1 : Int32) : pr_ R8 158 265 [.inl x1] 0 false g := by
  have h := pr_an2 (q := false) (q' := false) (pr_tried hG hx hR.1 x1) (pwL_tried hG hx hR.1 hR.2 x1)
  exact h
theorem p8_odds {g : pH} (hG : g_I eG g) (hx : xL g) (hR : R8 g) (x1 x2 x3 x4 : Int32) : pr_ R8 137 228 [.inl x1, .inl x2, .inl x3, .inl x4] 0 false g := by
  have h := pr_an2 (q := false) (q' := false) (pr_odds hG hx hR.1 x1 x2 x3 x4) (pwL_odds hG hx hR.1 hR.2 x1 x2 x3 x4)
  exact h
theorem p8_toTurn {g : pH} (hG : g_I eG g) (hx : xL g) (hR : R8 g) (x1 x2 : Int32) : pr_ R8 156 263 [.inl x1, .inl x2] 1 false g := by
  have h := pr_an2 (q := false) (q' := false) (pr_toTurn hG hx hR.1 x1 x2) (pwL_toTurn hG hx hR.1 hR.2 x1 x2)
  exact h
theorem p8_leave {g : pH} (hG : g_I eG g) (hx : xL g) (hR : R8 g) (x1 x2 : Int32) : pr_ R8 130 217 [.inl x1, .inl x2] 1 false g := by
  have h := pr_an2 (q := false) (q' := false) (pr_leave hG hx hR.1 x1 x2) (pwL_leave hG hx hR.1 hR.2 x1 x2)
  exact h
theorem p8_sure {g : pH} (hG : g_I eG g) (hx : xL g) (hR : R8 g) (x1 x2 : Int32) : pr_ R8 150 258 [.inl x1, .inl x2] 0 true g := by
  have h := pr_an2 (q := true) (q' := false) (pr_sure hG hx hR.1 x1 x2) (pwL_sure hG hx hR.1 hR.2 x1 x2)
  exact h
theorem p8_dots {g : pH} (hG : g_I eG g) (hx : xL g) (hR : R8 g) (x1 x2 : Int32) : pr_ R8 117 184 [.inl x1, .inl x2] 0 false g := by
  have h := pr_an2 (q := false) (q' := false) (pr_dots hG hx hR.1 x1 x2) (pwL_dots hG hx hR.1 hR.2 x1 x2)
  exact h
theorem p8_lightBox {g : pH} (hG : g_I eG g) (hx : xL g) (hR : R8 g) (x1 x2 : Int32) : pr_ R8 132 219 [.inl x1, .inl x2] 1 false g := by
  have h := pr_an2 (q := false) (q' := false) (pr_lightBox hG hx hR.1 x1 x2) (pwL_lightBox hG hx hR.1 hR.2 x1 x2)
  exact h
theorem p8_clue {g : pH} (hG : g_I eG g) (hx : xL g) (hR : R8 g) (x1 x2 : Int32) : pr_ R8 111 177 [.inl x1, .inl x2] 0 false g := by
  have h := pr_an2 (q := false) (q' := false) (pr_clue hG hx hR.1 x1 x2) (pwL_clue hG hx hR.1 hR.2 x1 x2)
  exact h
theorem p8_spilt {g : pH} (hG : g_I eG g) (hx : xL g) (hR : R8 g) (x1 x2 : Int32) : pr_ R8 149 254 [.inl x1, .inl x2] 1 false g := by
  have h := pr_an2 (q := false) (q' := false) (pr_spilt hG hx hR.1 x1 x2) (pwL_spilt hG hx hR.1 hR.2 x1 x2)
  exact h
theorem p8_says {g : pH} (hG : g_I eG g) (hx : xL g) (hR : R8 g) (x1 x2 x3 x4 : Int32) : pr_ R8 142 243 [.inl x1, .inl x2, .inl x3, .inl x4] 1 false g := by
  have h := pr_an2 (q := false) (q' := false) (pr_says hG hx hR.1 x1 x2 x3 x4) (pwL_says hG hx hR.1 hR.2 x1 x2 x3 x4)
  exact h
theorem p8_shadow {g : pH} (hG : g_I eG g) (hx : xL g) (hR : R8 g) (x1 x2 x3 : Int32) : pr_ R8 145 246 [.inl x1, .inl x2, .inl x3] 0 false g := by
  have h := pr_an2 (q := false) (q' := false) (pr_shadow hG hx hR.1 x1 x2 x3) (pwL_shadow hG hx hR.1 hR.2 x1 x2 x3)
  exact h
theorem p8_link {g : pH} (hG : g_I eG g) (hx : xL g) (hR : R8 g) (x1 x2 : Int32) : pr_ R8 133 220 [.inl x1, .inl x2] 0 false g := by
  have h := pr_an2 (q := false) (q' := false) (pr_link hG hx hR.1 x1 x2) (pwL_link hG hx hR.1 hR.2 x1 x2)
  exact h
theorem p8_leftOut {g : pH} (hG : g_I eG g) (hx : xL g) (hR : R8 g) (x1 x2 : Int32) : pr_ R8 131 218 [.inl x1, .inl x2] 0 false g := by
  have h := pr_an2 (q := false) (q' := false) (pr_leftOut hG hx hR.1 x1 x2) (pwL_leftOut hG hx hR.1 hR.2 x1 x2)
  exact h
theorem p8_lamp {g : pH} (hG : g_I eG g) (hx : xL g) (hR : R8 g) (x1 x2 x3 : Int32) : pr_ R8 127 210 [.inl x1, .inl x2, .inl x3] 1 false g := by
  have h := pr_an2 (q := false) (q' := false) (pr_lamp hG hx hR.1 x1 x2 x3) (pwL_lamp hG hx hR.1 hR.2 x1 x2 x3)
  exact h
theorem p8_hand {g : pH} (hG : g_I eG g) (hx : xL g) (hR : R8 g) (x1 : Int32) : pr_ R8 121 195 [.inl x1] 1 false g := by
  have h := pr_an2 (q := false) (q' := false) (pr_hand hG hx hR.1 x1) (pwL_hand hG hx hR.1 hR.2 x1)
  exact h
theorem p8_putIn {g : pH} (hG : g_I eG g) (hx : xL g) (hR : R8 g) : pr_ R8 140 232 [] 0 false g := by
  have h := pr_an2 (q := false) (q' := false) (pr_putIn hG hx hR.1) (pwL_putIn hG hx hR.1 hR.2)
  exact h
theorem p8_seed {g : pH} (hG : g_I eG g) (hx : xL g) (hR : R8 g) (x1 : Int32) : pr_ R8 144 245 [.inl x1] 0 false g := by
  have h := pr_an2 (q := false) (q' := false) (pr_seed hG hx hR.1 x1) (pwL_seed hG hx hR.1 hR.2 x1)
  exact h
theorem p8_keep {g : pH} (hG : g_I eG g) (hx : xL g) (hR : R8 g) : pr_ R8 126 209 [] 0 true g := by
  have h := pr_an2 (q := true) (q' := false) (pr_keep hG hx hR.1) (pwL_keep hG hx hR.1 hR.2)
  exact h
theorem p8_undo {g : pH} (hG : g_I eG g) (hx : xL g) (hR : R8 g) : pr_ R8 160 270 [] 0 true g := by
  have h := pr_an2 (q := true) (q' := false) (pr_undo hG hx hR.1) (pwL_undo hG hx hR.1 hR.2)
  exact h
theorem p8_check {g : pH} (hG : g_I eG g) (hx : xL g) (hR : R8 g) (x1 x2 : Int32) : pr_ R8 110 174 [.inl x1, .inl x2] 0 false g := by
  have h := pr_an2 (q := false) (q' := false) (pr_check hG hx hR.1 x1 x2) (pwL_check hG hx hR.1 hR.2 x1 x2)
  exact h
theorem p8_count {g : pH} (hG : g_I eG g) (hx : xL g) (hR : R8 g) (x1 : Int32) : pr_ R8 115 182 [.inl x1] 0 false g := by
  have h := pr_an2 (q := false) (q' := false) (pr_count hG hx hR.1 x1) (pwL_count hG hx hR.1 hR.2 x1)
  exact h
