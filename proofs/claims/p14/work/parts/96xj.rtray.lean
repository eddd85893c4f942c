/-! rows of the tray: what both sides know, ops as pairs with it, inTray (printed by wip/e2/u5.py) -/
theorem yim_0 : xe_look (xc 200) 0 = some (.iload_n 1, 1, 0, 0, 0) := by decide +kernel
theorem yim_1 : xe_look (xc 200) 1 = some (.ifCond .lt 20, 3, 0, 0, 0) := by decide +kernel
theorem yim_4 : xe_look (xc 200) 4 = some (.iload_n 1, 1, 0, 0, 0) := by decide +kernel
theorem yim_5 : xe_look (xc 200) 5 = some (.aload_n 0, 1, 0, 0, 0) := by decide +kernel
theorem yim_6 : xe_look (xc 200) 6 = some (.getfield 289, 3, 12, 24, 1161) := by decide +kernel
theorem yim_9 : xe_look (xc 200) 9 = some (.if_icmp .ge 12, 3, 0, 0, 0) := by decide +kernel
theorem yim_12 : xe_look (xc 200) 12 = some (.aload_n 0, 1, 0, 0, 0) := by decide +kernel
theorem yim_13 : xe_look (xc 200) 13 = some (.getfield 56, 3, 12, 27, 1183) := by decide +kernel
theorem yim_16 : xe_look (xc 200) 16 = some (.iload_n 1, 1, 0, 0, 0) := by decide +kernel
theorem yim_17 : xe_look (xc 200) 17 = some (.iaload, 1, 0, 0, 0) := by decide +kernel
theorem yim_18 : xe_look (xc 200) 18 = some (.goto 4, 3, 0, 0, 0) := by decide +kernel
theorem yim_21 : xe_look (xc 200) 21 = some (.iconst (-1), 1, 0, 0, 0) := by decide +kernel
theorem yim_22 : xe_look (xc 200) 22 = some (.ireturn, 1, 0, 0, 0) := by decide +kernel
theorem yit_0 : xe_look (xc 122) 0 = some (.aload_n 0, 1, 0, 0, 0) := by decide +kernel
theorem yit_1 : xe_look (xc 122) 1 = some (.getfield 26, 3, 11, 5, 1001) := by decide +kernel
theorem yit_4 : xe_look (xc 122) 4 = some (.iload_n 1, 1, 0, 0, 0) := by decide +kernel
theorem yit_5 : xe_look (xc 122) 5 = some (.invokevirtual 205, 3, 0, 98, 1025) := by decide +kernel
theorem yit_8 : xe_look (xc 122) 8 = some (.ireturn, 1, 0, 0, 0) := by decide +kernel
theorem ysl150_0 : xe_look (xc 98) 0 = some (.iload_n 1, 1, 0, 0, 0) := by decide +kernel
theorem ysl150_1 : xe_look (xc 98) 1 = some (.ifCond .lt 26, 3, 0, 0, 0) := by decide +kernel
theorem ysl150_4 : xe_look (xc 98) 4 = some (.iload_n 1, 1, 0, 0, 0) := by decide +kernel
theorem ysl150_5 : xe_look (xc 98) 5 = some (.aload_n 0, 1, 0, 0, 0) := by decide +kernel
theorem ysl150_6 : xe_look (xc 98) 6 = some (.getfield 18, 3, 9, 1, 944) := by decide +kernel
theorem ysl150_9 : xe_look (xc 98) 9 = some (.if_icmp .ge 18, 3, 0, 0, 0) := by decide +kernel
theorem ysl150_12 : xe_look (xc 98) 12 = some (.iload_n 1, 1, 0, 0, 0) := by decide +kernel
theorem ysl150_13 : xe_look (xc 98) 13 = some (.bipush 60, 2, 0, 0, 0) := by decide +kernel
theorem ysl150_15 : xe_look (xc 98) 15 = some (.if_icmp .ge 12, 3, 0, 0, 0) := by decide +kernel
theorem ysl150_18 : xe_look (xc 98) 18 = some (.aload_n 0, 1, 0, 0, 0) := by decide +kernel
theorem ysl150_19 : xe_look (xc 98) 19 = some (.getfield 9, 3, 9, 0, 945) := by decide +kernel
theorem ysl150_22 : xe_look (xc 98) 22 = some (.iload_n 1, 1, 0, 0, 0) := by decide +kernel
theorem ysl150_23 : xe_look (xc 98) 23 = some (.iaload, 1, 0, 0, 0) := by decide +kernel
theorem ysl150_24 : xe_look (xc 98) 24 = some (.goto 4, 3, 0, 0, 0) := by decide +kernel
theorem ysl150_27 : xe_look (xc 98) 27 = some (.iconst (-1), 1, 0, 0, 0) := by decide +kernel
theorem ysl150_28 : xe_look (xc 98) 28 = some (.ireturn, 1, 0, 0, 0) := by decide +kernel
theorem ysl152_0 : xe_look (xc 98) 0 = some (.iload_n 1, 1, 0, 0, 0) := by decide +kernel
theorem ysl152_1 : xe_look (xc 98) 1 = some (.ifCond .lt 26, 3, 0, 0, 0) := by decide +kernel
theorem ysl152_4 : xe_look (xc 98) 4 = some (.iload_n 1, 1, 0, 0, 0) := by decide +kernel
theorem ysl152_5 : xe_look (xc 98) 5 = some (.aload_n 0, 1, 0, 0, 0) := by decide +kernel
theorem ysl152_6 : xe_look (xc 98) 6 = some (.getfield 18, 3, 9, 1, 944) := by decide +kernel
theorem ysl152_9 : xe_look (xc 98) 9 = some (.if_icmp .ge 18, 3, 0, 0, 0) := by decide +kernel
theorem ysl152_12 : xe_look (xc 98) 12 = some (.iload_n 1, 1, 0, 0, 0) := by decide +kernel
theorem ysl152_13 : xe_look (xc 98) 13 = some (.bipush 60, 2, 0, 0, 0) := by decide +kernel
theorem ysl152_15 : xe_look (xc 98) 15 = some (.if_icmp .ge 12, 3, 0, 0, 0) := by decide +kernel
theorem ysl152_18 : xe_look (xc 98) 18 = some (.aload_n 0, 1, 0, 0, 0) := by decide +kernel
theorem ysl152_19 : xe_look (xc 98) 19 = some (.getfield 9, 3, 9, 0, 945) := by decide +kernel
theorem ysl152_22 : xe_look (xc 98) 22 = some (.iload_n 1, 1, 0, 0, 0) := by decide +kernel
theorem ysl152_23 : xe_look (xc 98) 23 = some (.iaload, 1, 0, 0, 0) := by decide +kernel
theorem ysl152_24 : xe_look (xc 98) 24 = some (.goto 4, 3, 0, 0, 0) := by decide +kernel
theorem ysl152_27 : xe_look (xc 98) 27 = some (.iconst (-1), 1, 0, 0, 0) := by decide +kernel
theorem ysl152_28 : xe_look (xc 98) 28 = some (.ireturn, 1, 0, 0, 0) := by decide +kernel
def mTr : Nat := 1277337798102220679460079064638107817948415159018477743078236805640497263512330512322501518221012668926443131536425597261334363400239593089895538759416932733159533343932904371590321664739328246714207820003736177237704877913673022453499520953267235807011449508989473005961081805789509319521206368
theorem mTr_b : mTr.testBit (cn 0 + 5) = true ∧ mTr.testBit (cn 0 + 6) = true ∧ mTr.testBit (cn 150 + 1) = true ∧ mTr.testBit (cn 152 + 1) = true ∧ mTr.testBit (cn 151) = true ∧ mTr.testBit (cn 153) = true ∧ mTr.testBit (cn 196 + 24) = true ∧ mTr.testBit (cn 212) = true := by decide +kernel
/-- the tray in use, as both sides have it -/
def rT (g : pH) (K K2 A : Nat) : Prop := g.2.2.1 0 5 = some K ∧ g.2.2.1 0 6 = some K2 ∧ cF g K 1 = cF g 196 24 ∧ ∀ j : Nat, (j : Int) < cF g 196 24 → fA g A j = fA g 212 j
def RT (g : pH) : Prop := rT g 150 152 151 ∨ rT g 152 150 153
def RH (g : pH) : Prop := R0 g ∧ RT g
theorem rT_f {W K K2 A : Nat} {g g1 : pH} (hM : f_M W g g1) (h5 : W.testBit (cn 0 + 5) = false) (h6 : W.testBit (cn 0 + 6) = false) (hk : W.testBit (cn K + 1) = false) (ha : W.testBit (cn A) = false) (h24 : W.testBit (cn 196 + 24) = false) (h12 : W.testBit (cn 212) = false) (h : rT g K K2 A) : rT g1 K K2 A := by
  obtain ⟨e1, e2, e3, e4⟩ := h
  refine ⟨(hM.1 0 5 h5).2.2.trans e1, (hM.1 0 6 h6).2.2.trans e2, ?_, fun j hj => ?_⟩
  · rw [cF_M hM hk, cF_M hM h24]
    exact e3
  · rw [cF_M hM h24] at hj
    rw [fA_M hM ha, fA_M hM h12]
    exact e4 j hj
theorem RT_f {W : Nat} {g g1 : pH} (hM : f_M W g g1) (hW : W &&& mTr = 0) (h : RT g) : RT g1 := by
  obtain ⟨b1, b2, b3, b4, b5, b6, b7, b8⟩ := mTr_b
  rcases h with h | h
  · exact Or.inl (rT_f hM (mx_f hW b1) (mx_f hW b2) (mx_f hW b3) (mx_f hW b5) (mx_f hW b7) (mx_f hW b8) h)
  · exact Or.inr (rT_f hM (mx_f hW b1) (mx_f hW b2) (mx_f hW b4) (mx_f hW b6) (mx_f hW b7) (mx_f hW b8) h)
theorem pr_an2 {R R' : pH → Prop} {μ ν : Nat} {as : List pv} {τ : Nat} {q q' : Bool} {g : pH} (h : pr_ R μ ν as τ q g) (h' : pr_ R' μ ν as τ q' g) : pr_ (fun g => R g ∧ R' g) μ ν as τ (q || q') g := t_mono (t_and h h') (fun o ho => by
  obtain ⟨⟨v, h1, h2, h3⟩, v', h4, h5, h6⟩ := ho
  obtain rfl : v = v' := Option.some.inj (h1.symm.trans h4)
  refine ⟨v, h1, h2, t_mono (t_and h3 h6) (fun o2 ho2 => ?_)⟩
  obtain ⟨⟨w, k1, k2, k3, k4, k5, k6⟩, w', k7, k8, k9, k10, k11, k12⟩ := ho2
  obtain rfl : w = w' := Option.some.inj (k1.symm.trans k7)
  refine ⟨w, k1, k2, k3, k4, ⟨k5, k11⟩, fun z => ?_⟩
  rw [Bool.or_eq_true] at z
  exact z.elim k6 k12)
theorem mt9_0 : kk_0.2.2.2.1 &&& mTr = 0 := by decide +kernel
theorem mt9_1 : kk_1.2.2.2.1 &&& mTr = 0 := by decide +kernel
theorem pw14_feed {g : pH} (hG : g_I eG g) (hx : xL g) (hR : R0 g) (hT : RT g) (x1 x2 x3 x4 x5 : Int32) : pr_ RT 119 189 [.inl x1, .inl x2, .inl x3, .inl x4, .inl x5] 0 false g := by
  unfold pr_
  refine kc_go (k := kk_0) in_k0 rfl (by decide) hG hx (vs := [pvR 0, .inl x1, .inl x2, .inl x3, .inl x4, .inl x5]) (xs := [cv (pvR 0), x1.toInt, x2.toInt, x3.toInt, x4.toInt, x5.toInt]) ⟨by decide, ⟨⟨pvR 0, rfl, rfl, rfl, ok_0⟩, ⟨.inl x1, rfl, rfl, rfl, ok_full32 _⟩, ⟨.inl x2, rfl, rfl, rfl, ok_full32 _⟩, ⟨.inl x3, rfl, rfl, rfl, ok_full32 _⟩, ⟨.inl x4, rfl, rfl, rfl, ok_full32 _⟩, ⟨.inl x5, rfl, rfl, rfl, ok_full32 _⟩, trivial⟩, trivial, fun c hc => by cases hc⟩ rfl (n := 0) (by decide +kernel) (fun v1 g1 c1 G1 X1 M1 => ⟨v1, rfl, c1, ?_⟩)
  have Q1 := RT_f M1 mt9_0 hT
  exact kc_go (k := kk_1) in_k1 rfl (by decide) G1 X1 (vs := [pvR 196, .inl x1, .inl x2, .inl x3, .inl x4, .inl x5]) (xs := [cv (pvR 196), x1.toInt, x2.toInt, x3.toInt, x4.toInt, x5.toInt]) ⟨by decide, ⟨⟨pvR 196, rfl, rfl, rfl, ok_this⟩, ⟨.inl x1, rfl, rfl, rfl, ok_full32 _⟩, ⟨.inl x2, rfl, rfl, rfl, ok_full32 _⟩, ⟨.inl x3, rfl, rfl, rfl, ok_full32 _⟩, ⟨.inl x4, rfl, rfl, rfl, ok_full32 _⟩, ⟨.inl x5, rfl, rfl, rfl, ok_full32 _⟩, trivial⟩, trivial, fun c hc => by cases hc⟩ rfl (n := 0) (by decide +kernel) (fun v2 g2 c2 G2 X2 M2 => ⟨v2, rfl, c2, G2, X2, RT_f M2 mt9_1 Q1, fun z => by cases z⟩)
theorem mt9_2 : kk_2.2.2.2.1 &&& mTr = 0 := by decide +kernel
theorem mt9_3 : kk_3.2.2.2.1 &&& mTr = 0 := by decide +kernel
theorem pw14_slide {g : pH} (hG : g_I eG g) (hx : xL g) (hR : R0 g) (hT : RT g) (x1 x2 x3 x4 : Int32) : pr_ RT 147 251 [.inl x1, .inl x2, .inl x3, .inl x4] 0 false g := by
  unfold pr_
  refine kc_go (k := kk_2) in_k2 rfl (by decide) hG hx (vs := [pvR 0, .inl x1, .inl x2, .inl x3, .inl x4]) (xs := [cv (pvR 0), x1.toInt, x2.toInt, x3.toInt, x4.toInt]) ⟨by decide, ⟨⟨pvR 0, rfl, rfl, rfl, ok_0⟩, ⟨.inl x1, rfl, rfl, rfl, ok_full32 _⟩, ⟨.inl x2, rfl, rfl, rfl, ok_full32 _⟩, ⟨.inl x3, rfl, rfl, rfl, ok_full32 _⟩, ⟨.inl x4, rfl, rfl, rfl, ok_full32 _⟩, trivial⟩, trivial, fun c hc => by cases hc⟩ rfl (n := 0) (by decide +kernel) (fun v1 g1 c1 G1 X1 M1 => ⟨v1, rfl, c1, ?_⟩)
  have Q1 := RT_f M1 mt9_2 hT
  exact kc_go (k := kk_3) in_k3 rfl (by decide) G1 X1 (vs := [pvR 196, .inl x1, .inl x2, .inl x3, .inl x4]) (xs := [cv (pvR 196), x1.toInt, x2.toInt, x3.toInt, x4.toInt]) ⟨by decide, ⟨⟨pvR 196, rfl, rfl, rfl, ok_this⟩, ⟨.inl x1, rfl, rfl, rfl, ok_full32 _⟩, ⟨.inl x2, rfl, rfl, rfl, ok_full32 _⟩, ⟨.inl x3, rfl, rfl, rfl, ok_full32 _⟩, ⟨.inl x4, rfl, rfl, rfl, ok_full32 _⟩, trivial⟩, trivial, fun c hc => by cases hc⟩ rfl (n := 0) (by decide +kernel) (fun v2 g2 c2 G2 X2 M2 => ⟨v2, rfl, c2, G2, X2, RT_f M2 mt9_3 Q1, fun z => by cases z⟩)
theorem mt9_4 : kk_4.2.2.2.1 &&& mTr = 0 := by decide +kernel
theorem mt9_5 : kk_5.2.2.2.1 &&& mTr = 0 := by decide +kernel
theorem pw14_put {g : pH} (hG : g_I eG g) (hx : xL g) (hR : R0 g) (hT : RT g) (x1 x2 : Int32) : pr_ RT 139 231 [.inl x1, .inl x2] 0 false g := by
  unfold pr_
  refine kc_go (k := kk_4) in_k4 rfl (by decide) hG hx (vs := [pvR 0, .inl x1, .inl x2]) (xs := [cv (pvR 0), x1.toInt, x2.toInt]) ⟨by decide, ⟨⟨pvR 0, rfl, rfl, rfl, ok_0⟩, ⟨.inl x1, rfl, rfl, rfl, ok_full32 _⟩, ⟨.inl x2, rfl, rfl, rfl, ok_full32 _⟩, trivial⟩, trivial, fun c hc => by cases hc⟩ rfl (n := 0) (by decide +kernel) (fun v1 g1 c1 G1 X1 M1 => ⟨v1, rfl, c1, ?_⟩)
  have Q1 := RT_f M1 mt9_4 hT
  exact kc_go (k := kk_5) in_k5 rfl (by decide) G1 X1 (vs := [pvR 196, .inl x1, .inl x2]) (xs := [cv (pvR 196), x1.toInt, x2.toInt]) ⟨by decide, ⟨⟨pvR 196, rfl, rfl, rfl, ok_this⟩, ⟨.inl x1, rfl, rfl, rfl, ok_full32 _⟩, ⟨.inl x2, rfl, rfl, rfl, ok_full32 _⟩, trivial⟩, trivial, fun c hc => by cases hc⟩ rfl (n := 0) (by decide +kernel) (fun v2 g2 c2 G2 X2 M2 => ⟨v2, rfl, c2, G2, X2, RT_f M2 mt9_5 Q1, fun z => by cases z⟩)
theorem mt9_6 : kk_6.2.2.2.1 &&& mTr = 0 := by decide +kernel
theorem mt9_7 : kk_7.2.2.2.1 &&& mTr = 0 := by decide +kernel
theorem pw14_day {g : pH} (hG : g_I eG g) (hx : xL g) (hR : R0 g) (hT : RT g) (x1 x2 : Int32) : pr_ RT 116 183 [.inl x1, .inl x2] 0 false g := by
  unfold pr_
  refine kc_go (k := kk_6) in_k6 rfl (by decide) hG hx (vs := [pvR 0, .inl x1, .inl x2]) (xs := [cv (pvR 0), x1.toInt, x2.toInt]) ⟨by decide, ⟨⟨pvR 0, rfl, rfl, rfl, ok_0⟩, ⟨.inl x1, rfl, rfl, rfl, ok_full32 _⟩, ⟨.inl x2, rfl, rfl, rfl, ok_full32 _⟩, trivial⟩, trivial, fun c hc => by cases hc⟩ rfl (n := 0) (by decide +kernel) (fun v1 g1 c1 G1 X1 M1 => ⟨v1, rfl, c1, ?_⟩)
  have Q1 := RT_f M1 mt9_6 hT
  exact kc_go (k := kk_7) in_k7 rfl (by decide) G1 X1 (vs := [pvR 196, .inl x1, .inl x2]) (xs := [cv (pvR 196), x1.toInt, x2.toInt]) ⟨by decide, ⟨⟨pvR 196, rfl, rfl, rfl, ok_this⟩, ⟨.inl x1, rfl, rfl, rfl, ok_full32 _⟩, ⟨.inl x2, rfl, rfl, rfl, ok_full32 _⟩, trivial⟩, trivial, fun c hc => by cases hc⟩ rfl (n := 0) (by decide +kernel) (fun v2 g2 c2 G2 X2 M2 => ⟨v2, rfl, c2, G2, X2, RT_f M2 mt9_7 Q1, fun z => by cases z⟩)
theorem mt9_8 : kk_8.2.2.2.1 &&& mTr = 0 := by decide +kernel
theorem mt9_9 : kk_9.2.2.2.1 &&& mTr = 0 := by decide +kernel
theorem pw14_gone {g : pH} (hG : g_I eG g) (hx : xL g) (hR : R0 g) (hT : RT g) (x1 : Int32) : pr_ RT 120 194 [.inl x1] 0 false g := by
  unfold pr_
  refine kc_go (k := kk_8) in_k8 rfl (by decide) hG hx (vs := [pvR 0, .inl x1]) (xs := [cv (pvR 0), x1.toInt]) ⟨by decide, ⟨⟨pvR 0, rfl, rfl, rfl, ok_0⟩, ⟨.inl x1, rfl, rfl, rfl, ok_full32 _⟩, trivial⟩, trivial, fun c hc => by cases hc⟩ rfl (n := 0) (by decide +kernel) (fun v1 g1 c1 G1 X1 M1 => ⟨v1, rfl, c1, ?_⟩)
  have Q1 := RT_f M1 mt9_8 hT
  exact kc_go (k := kk_9) in_k9 rfl (by decide) G1 X1 (vs := [pvR 196, .inl x1]) (xs := [cv (pvR 196), x1.toInt]) ⟨by decide, ⟨⟨pvR 196, rfl, rfl, rfl, ok_this⟩, ⟨.inl x1, rfl, rfl, rfl, ok_full32 _⟩, trivial⟩, trivial, fun c hc => by cases hc⟩ rfl (n := 0) (by decide +kernel) (fun v2 g2 c2 G2 X2 M2 => ⟨v2, rfl, c2, G2, X2, RT_f M2 mt9_9 Q1, fun z => by cases z⟩)
theorem mt9_10 : kk_10.2.2.2.1 &&& mTr = 0 := by decide +kernel
theorem mt9_11 : kk_11.2.2.2.1 &&& mTr = 0 := by decide +kernel
theorem pw14_looker {g : pH} (hG : g_I eG g) (hx : xL g) (hR : R0 g) (hT : RT g) (x1 x2 x3 : Int32) : pr_ RT 134 221 [.inl x1, .inl x2, .inl x3] 0 false g := by
  unfold pr_
  refine kc_go (k := kk_10) in_k10 rfl (by decide) hG hx (vs := [pvR 0, .inl x1, .inl x2, .inl x3]) (xs := [cv (pvR 0), x1.toInt, x2.toInt, x3.toInt]) ⟨by decide, ⟨⟨pvR 0, rfl, rfl, rfl, ok_0⟩, ⟨.inl x1, rfl, rfl, rfl, ok_full32 _⟩, ⟨.inl x2, rfl, rfl, rfl, ok_full32 _⟩, ⟨.inl x3, rfl, rfl, rfl, ok_full32 _⟩, trivial⟩, trivial, fun c hc => by cases hc⟩ rfl (n := 0) (by decide +kernel) (fun v1 g1 c1 G1 X1 M1 => ⟨v1, rfl, c1, ?_⟩)
  have Q1 := RT_f M1 mt9_10 hT
  exact kc_go (k := kk_11) in_k11 rfl (by decide) G1 X1 (vs := [pvR 196, .inl x1, .inl x2, .inl x3]) (xs := [cv (pvR 196), x1.toInt, x2.toInt, x3.toInt]) ⟨by decide, ⟨⟨pvR 196, rfl, rfl, rfl, ok_this⟩, ⟨.inl x1, rfl, rfl, rfl, ok_full32 _⟩, ⟨.inl x2, rfl, rfl, rfl, ok_full32 _⟩, ⟨.inl x3, rfl, rfl, rfl, ok_full32 _⟩, trivial⟩, trivial, fun c hc => by cases hc⟩ rfl (n := 0) (by decide +kernel) (fun v2 g2 c2 G2 X2 M2 => ⟨v2, rfl, c2, G2, X2, RT_f M2 mt9_11 Q1, fun z => by cases z⟩)
theorem mt9_12 : kk_12.2.2.2.1 &&& mTr = 0 := by decide +kernel
theorem mt9_13 : kk_13.2.2.2.1 &&& mTr = 0 := by decide +kernel
theorem pw14_lamps {g : pH} (hG : g_I eG g) (hx : xL g) (hR : R0 g) (hT : RT g) (x1 : Int32) : pr_ RT 128 211 [.inl x1] 0 false g := by
  unfold pr_
  refine kc_go (k := kk_12) in_k12 rfl (by decide) hG hx (vs := [pvR 0, .inl x1]) (xs := [cv (pvR 0), x1.toInt]) ⟨by decide, ⟨⟨pvR 0, rfl, rfl, rfl, ok_0⟩, ⟨.inl x1, rfl, rfl, rfl, ok_full32 _⟩, trivial⟩, trivial, fun c hc => by cases hc⟩ rfl (n := 0) (by decide +kernel) (fun v1 g1 c1 G1 X1 M1 => ⟨v1, rfl, c1, ?_⟩)
  have Q1 := RT_f M1 mt9_12 hT
  exact kc_go (k := kk_13) in_k13 rfl (by decide) G1 X1 (vs := [pvR 196, .inl x1]) (xs := [cv (pvR 196), x1.toInt]) ⟨by decide, ⟨⟨pvR 196, rfl, rfl, rfl, ok_this⟩, ⟨.inl x1, rfl, rfl, rfl, ok_full32 _⟩, trivial⟩, trivial, fun c hc => by cases hc⟩ rfl (n := 0) (by decide +kernel) (fun v2 g2 c2 G2 X2 M2 => ⟨v2, rfl, c2, G2, X2, RT_f M2 mt9_13 Q1, fun z => by cases z⟩)
theorem mt9_14 : kk_23.2.2.2.1 &&& mTr = 0 := by decide +kernel
theorem mt9_15 : WL &&& mTr = 0 := by decide +kernel
theorem pw14_law {g : pH} (hG : g_I eG g) (hx : xL g) (hR : R0 g) (hT : RT g) (x1 : Int32) : pr_ RT 129 213 [.inl x1] 0 false g := by
  unfold pr_
  refine kc_go (k := kk_23) in_k23 rfl (by decide) hG hx (vs := [pvR 0, .inl x1]) (xs := [cv (pvR 0), x1.toInt]) ⟨by decide, ⟨⟨pvR 0, rfl, rfl, rfl, ok_0⟩, ⟨.inl x1, rfl, rfl, rfl, ok_full32 _⟩, trivial⟩, trivial, fun c hc => by cases hc⟩ rfl (n := 0) (by decide +kernel) (fun v1 g1 c1 G1 X1 M1 => ⟨v1, rfl, c1, ?_⟩)
  have Q1 := RT_f M1 mt9_14 hT
  exact lw9_run (n := x1.toInt) (by decide) G1 X1 (i32_b _) (fun z2 g2 v2 J2 X2 t2 => ⟨_, rfl, rfl, J2.1, X2, RT_f J2.2 mt9_15 Q1, fun z => by cases z⟩) (fun z2 => ⟨_, rfl, rfl, G1, X1, Q1, fun z => by cases z⟩) rfl (congrArg some (oI_r x1))
theorem mt9_16 : kk_14.2.2.2.1 &&& mTr = 0 := by decide +kernel
theorem mt9_17 : kk_15.2.2.2.1 &&& mTr = 0 := by decide +kernel
theorem pw14_ways {g : pH} (hG : g_I eG g) (hx : xL g) (hR : R0 g) (hT : RT g) (x1 x2 x3 : Int32) : pr_ RT 164 273 [.inl x1, .inl x2, .inl x3] 0 false g := by
  unfold pr_
  refine kc_go (k := kk_14) in_k14 rfl (by decide) hG hx (vs := [pvR 0, .inl x1, .inl x2, .inl x3]) (xs := [cv (pvR 0), x1.toInt, x2.toInt, x3.toInt]) ⟨by decide, ⟨⟨pvR 0, rfl, rfl, rfl, ok_0⟩, ⟨.inl x1, rfl, rfl, rfl, ok_full32 _⟩, ⟨.inl x2, rfl, rfl, rfl, ok_full32 _⟩, ⟨.inl x3, rfl, rfl, rfl, ok_full32 _⟩, trivial⟩, trivial, fun c hc => by cases hc⟩ rfl (n := 0) (by decide +kernel) (fun v1 g1 c1 G1 X1 M1 => ⟨v1, rfl, c1, ?_⟩)
  have Q1 := RT_f M1 mt9_16 hT
  exact kc_go (k := kk_15) in_k15 rfl (by decide) G1 X1 (vs := [pvR 196, .inl x1, .inl x2, .inl x3]) (xs := [cv (pvR 196), x1.toInt, x2.toInt, x3.toInt]) ⟨by decide, ⟨⟨pvR 196, rfl, rfl, rfl, ok_this⟩, ⟨.inl x1, rfl, rfl, rfl, ok_full32 _⟩, ⟨.inl x2, rfl, rfl, rfl, ok_full32 _⟩, ⟨.inl x3, rfl, rfl, rfl, ok_full32 _⟩, trivial⟩, trivial, fun c hc => by cases hc⟩ rfl (n := 0) (by decide +kernel) (fun v2 g2 c2 G2 X2 M2 => ⟨v2, rfl, c2, G2, X2, RT_f M2 mt9_17 Q1, fun z => by cases z⟩)
theorem mt9_18 : kk_16.2.2.2.1 &&& mTr = 0 := by decide +kernel
theorem mt9_19 : kk_17.2.2.2.1 &&& mTr = 0 := by decide +kernel
theorem pw14_shown {g : pH} (hG : g_I eG g) (hx : xL g) (hR : R0 g) (hT : RT g) (x1 x2 x3 : Int32) : pr_ RT 146 247 [.inl x1, .inl x2, .inl x3] 0 false g := by
  unfold pr_
  refine kc_go (k := kk_16) in_k16 rfl (by decide) hG hx (vs := [pvR 0, .inl x1, .inl x2, .inl x3]) (xs := [cv (pvR 0), x1.toInt, x2.toInt, x3.toInt]) ⟨by decide, ⟨⟨pvR 0, rfl, rfl, rfl, ok_0⟩, ⟨.inl x1, rfl, rfl, rfl, ok_full32 _⟩, ⟨.inl x2, rfl, rfl, rfl, ok_full32 _⟩, ⟨.inl x3, rfl, rfl, rfl, ok_full32 _⟩, trivial⟩, trivial, fun c hc => by cases hc⟩ rfl (n := 0) (by decide +kernel) (fun v1 g1 c1 G1 X1 M1 => ⟨v1, rfl, c1, ?_⟩)
  have Q1 := RT_f M1 mt9_18 hT
  exact kc_go (k := kk_17) in_k17 rfl (by decide) G1 X1 (vs := [pvR 196, .inl x1, .inl x2, .inl x3]) (xs := [cv (pvR 196), x1.toInt, x2.toInt, x3.toInt]) ⟨by decide, ⟨⟨pvR 196, rfl, rfl, rfl, ok_this⟩, ⟨.inl x1, rfl, rfl, rfl, ok_full32 _⟩, ⟨.inl x2, rfl, rfl, rfl, ok_full32 _⟩, ⟨.inl x3, rfl, rfl, rfl, ok_full32 _⟩, trivial⟩, trivial, fun c hc => by cases hc⟩ rfl (n := 0) (by decide +kernel) (fun v2 g2 c2 G2 X2 M2 => ⟨v2, rfl, c2, G2, X2, RT_f M2 mt9_19 Q1, fun z => by cases z⟩)
theorem mt9_20 : kk_18.2.2.2.1 &&& mTr = 0 := by decide +kernel
theorem mt9_21 : kk_19.2.2.2.1 &&& mTr = 0 := by decide +kernel
theorem pw14_slideIs {g : pH} (hG : g_I eG g) (hx : xL g) (hR : R0 g) (hT : RT g) (x1 x2 : Int32) : pr_ RT 148 252 [.inl x1, .inl x2] 0 false g := by
  unfold pr_
  refine kc_go (k := kk_18) in_k18 rfl (by decide) hG hx (vs := [pvR 0, .inl x1, .inl x2]) (xs := [cv (pvR 0), x1.toInt, x2.toInt]) ⟨by decide, ⟨⟨pvR 0, rfl, rfl, rfl, ok_0⟩, ⟨.inl x1, rfl, rfl, rfl, ok_full32 _⟩, ⟨.inl x2, rfl, rfl, rfl, ok_full32 _⟩, trivial⟩, trivial, fun c hc => by cases hc⟩ rfl (n := 0) (by decide +kernel) (fun v1 g1 c1 G1 X1 M1 => ⟨v1, rfl, c1, ?_⟩)
  have Q1 := RT_f M1 mt9_20 hT
  exact kc_go (k := kk_19) in_k19 rfl (by decide) G1 X1 (vs := [pvR 196, .inl x1, .inl x2]) (xs := [cv (pvR 196), x1.toInt, x2.toInt]) ⟨by decide, ⟨⟨pvR 196, rfl, rfl, rfl, ok_this⟩, ⟨.inl x1, rfl, rfl, rfl, ok_full32 _⟩, ⟨.inl x2, rfl, rfl, rfl, ok_full32 _⟩, trivial⟩, trivial, fun c hc => by cases hc⟩ rfl (n := 0) (by decide +kernel) (fun v2 g2 c2 G2 X2 M2 => ⟨v2, rfl, c2, G2, X2, RT_f M2 mt9_21 Q1, fun z => by cases z⟩)
theorem mt9_22 : kk_24.2.2.2.1 &&& mTr = 0 := by decide +kernel
theorem mt9_23 : kk_25.2.2.2.1 &&& mTr = 0 := by decide +kernel
theorem pw14_evening {g : pH} (hG : g_I eG g) (hx : xL g) (hR : R0 g) (hT : RT g) : pr_ RT 118 187 [] 0 false g := by
  unfold pr_
  refine kc_go (k := kk_24) in_k24 rfl (by decide) hG hx (vs := [pvR 0]) (xs := [cv (pvR 0)]) ⟨by decide, ⟨⟨pvR 0, rfl, rfl, rfl, ok_0⟩, trivial⟩, trivial, fun c hc => by cases hc⟩ rfl (n := 0) (by decide +kernel) (fun v1 g1 c1 G1 X1 M1 => ⟨v1, rfl, c1, ?_⟩)
  have Q1 := RT_f M1 mt9_22 hT
  exact kc_go (k := kk_25) in_k25 rfl (by decide) G1 X1 (vs := [pvR 196]) (xs := [cv (pvR 196)]) ⟨by decide, ⟨⟨pvR 196, rfl, rfl, rfl, ok_this⟩, trivial⟩, trivial, fun c hc => by cases hc⟩ rfl (n := 0) (by decide +kernel) (fun v2 g2 c2 G2 X2 M2 => ⟨v2, rfl, c2, G2, X2, RT_f M2 mt9_23 Q1, fun z => by cases z⟩)
theorem mt9_24 : kk_26.2.2.2.1 &&& mTr = 0 := by decide +kernel
theorem mt9_25 : kk_27.2.2.2.1 &&& mTr = 0 := by decide +kernel
theorem pw14_tried {g : pH} (hG : g_I eG g) (hx : xL g) (hR : R0 g) (hT : RT g) (x1 : Int32) : pr_ RT 158 265 [.inl x1] 0 false g := by
  unfold pr_
  refine kc_go (k := kk_26) in_k26 rfl (by decide) hG hx (vs := [pvR 0, .inl x1]) (xs := [cv (pvR 0), x1.toInt]) ⟨by decide, ⟨⟨pvR 0, rfl, rfl, rfl, ok_0⟩, ⟨.inl x1, rfl, rfl, rfl, ok_full32 _⟩, trivial⟩, trivial, fun c hc => by cases hc⟩ rfl (n := 0) (by decide +kernel) (fun v1 g1 c1 G1 X1 M1 => ⟨v1, rfl, c1, ?_⟩)
  have Q1 := RT_f M1 mt9_24 hT
  exact kc_go (k := kk_27) in_k27 rfl (by decide) G1 X1 (vs := [pvR 196, .inl x1]) (xs := [cv (pvR 196), x1.toInt]) ⟨by decide, ⟨⟨pvR 196, rfl, rfl, rfl, ok_this⟩, ⟨.inl x1, rfl, rfl, rfl, ok_full32 _⟩, trivial⟩, trivial, fun c hc => by cases hc⟩ rfl (n := 0) (by decide +kernel) (fun v2 g2 c2 G2 X2 M2 => ⟨v2, rfl, c2, G2, X2, RT_f M2 mt9_25 Q1, fun z => by cases z⟩)
theorem mt9_26 : kk_28.2.2.2.1 &&& mTr = 0 := by decide +kernel
theorem mt9_27 : kk_29.2.2.2.1 &&& mTr = 0 := by decide +kernel
theorem pw14_odds {g : pH} (hG : g_I eG g) (hx : xL g) (hR : R0 g) (hT : RT g) (x1 x2 x3 x4 : Int32) : pr_ RT 137 228 [.inl x1, .inl x2, .inl x3, .inl x4] 0 false g := by
  unfold pr_
  refine kc_go (k := kk_28) in_k28 rfl (by decide) hG hx (vs := [pvR 0, .inl x1, .inl x2, .inl x3, .inl x4]) (xs := [cv (pvR 0), x1.toInt, x2.toInt, x3.toInt, x4.toInt]) ⟨by decide, ⟨⟨pvR 0, rfl, rfl, rfl, ok_0⟩, ⟨.inl x1, rfl, rfl, rfl, ok_full32 _⟩, ⟨.inl x2, rfl, rfl, rfl, ok_full32 _⟩, ⟨.inl x3, rfl, rfl, rfl, ok_full32 _⟩, ⟨.inl x4, rfl, rfl, rfl, ok_full32 _⟩, trivial⟩, trivial, fun c hc => by cases hc⟩ rfl (n := 0) (by decide +kernel) (fun v1 g1 c1 G1 X1 M1 => ⟨v1, rfl, c1, ?_⟩)
  have Q1 := RT_f M1 mt9_26 hT
  exact kc_go (k := kk_29) in_k29 rfl (by decide) G1 X1 (vs := [pvR 196, .inl x1, .inl x2, .inl x3, .inl x4]) (xs := [cv (pvR 196), x1.toInt, x2.toInt, x3.toInt, x4.toInt]) ⟨by decide, ⟨⟨pvR 196, rfl, rfl, rfl, ok_this⟩, ⟨.inl x1, rfl, rfl, rfl, ok_full32 _⟩, ⟨.inl x2, rfl, rfl, rfl, ok_full32 _⟩, ⟨.inl x3, rfl, rfl, rfl, ok_full32 _⟩, ⟨.inl x4, rfl, rfl, rfl, ok_full32 _⟩, trivial⟩, trivial, fun c hc => by cases hc⟩ rfl (n := 0) (by decide +kernel) (fun v2 g2 c2 G2 X2 M2 => ⟨v2, rfl, c2, G2, X2, RT_f M2 mt9_27 Q1, fun z => by cases z⟩)
theorem mt9_28 : kk_30.2.2.2.1 &&& mTr = 0 := by decide +kernel
theorem mt9_29 : kk_31.2.2.2.1 &&& mTr = 0 := by decide +kernel
theorem pw14_toTurn {g : pH} (hG : g_I eG g) (hx : xL g) (hR : R0 g) (hT : RT g) (x1 x2 : Int32) : pr_ RT 156 263 [.inl x1, .inl x2] 1 false g := by
  unfold pr_
  refine kc_go (k := kk_30) in_k30 rfl (by decide) hG hx (vs := [pvR 0, .inl x1, .inl x2]) (xs := [cv (pvR 0), x1.toInt, x2.toInt]) ⟨by decide, ⟨⟨pvR 0, rfl, rfl, rfl, ok_0⟩, ⟨.inl x1, rfl, rfl, rfl, ok_full32 _⟩, ⟨.inl x2, rfl, rfl, rfl, ok_full32 _⟩, trivial⟩, trivial, fun c hc => by cases hc⟩ rfl (n := 1) (by decide +kernel) (fun v1 g1 c1 G1 X1 M1 => ⟨v1, rfl, c1, ?_⟩)
  have Q1 := RT_f M1 mt9_28 hT
  exact kc_go (k := kk_31) in_k31 rfl (by decide) G1 X1 (vs := [pvR 196, .inl x1, .inl x2]) (xs := [cv (pvR 196), x1.toInt, x2.toInt]) ⟨by decide, ⟨⟨pvR 196, rfl, rfl, rfl, ok_this⟩, ⟨.inl x1, rfl, rfl, rfl, ok_full32 _⟩, ⟨.inl x2, rfl, rfl, rfl, ok_full32 _⟩, trivial⟩, trivial, fun c hc => by cases hc⟩ rfl (n := 1) (by decide +kernel) (fun v2 g2 c2 G2 X2 M2 => ⟨v2, rfl, c2, G2, X2, RT_f M2 mt9_29 Q1, fun z => by cases z⟩)
theorem mt9_30 : kk_32.2.2.2.1 &&& mTr = 0 := by decide +kernel
theorem mt9_31 : kk_33.2.2.2.1 &&& mTr = 0 := by decide +kernel
theorem pw14_leave {g : pH} (hG : g_I eG g) (hx : xL g) (hR : R0 g) (hT : RT g) (x1 x2 : Int32) : pr_ RT 130 217 [.inl x1, .inl x2] 1 false g := by
  unfold pr_
  refine kc_go (k := kk_32) in_k32 rfl (by decide) hG hx (vs := [pvR 0, .inl x1, .inl x2]) (xs := [cv (pvR 0), x1.toInt, x2.toInt]) ⟨by decide, ⟨⟨pvR 0, rfl, rfl, rfl, ok_0⟩, ⟨.inl x1, rfl, rfl, rfl, ok_full32 _⟩, ⟨.inl x2, rfl, rfl, rfl, ok_full32 _⟩, trivial⟩, trivial, fun c hc => by cases hc⟩ rfl (n := 1) (by decide +kernel) (fun v1 g1 c1 G1 X1 M1 => ⟨v1, rfl, c1, ?_⟩)
  have Q1 := RT_f M1 mt9_30 hT
  exact kc_go (k := kk_33) in_k33 rfl (by decide) G1 X1 (vs := [pvR 196, .inl x1, .inl x2]) (xs := [cv (pvR 196), x1.toInt, x2.toInt]) ⟨by decide, ⟨⟨pvR 196, rfl, rfl, rfl, ok_this⟩, ⟨.inl x1, rfl, rfl, rfl, ok_full32 _⟩, ⟨.inl x2, rfl, rfl, rfl, ok_full32 _⟩, trivial⟩, trivial, fun c hc => by cases hc⟩ rfl (n := 1) (by decide +kernel) (fun v2 g2 c2 G2 X2 M2 => ⟨v2, rfl, c2, G2, X2, RT_f M2 mt9_31 Q1, fun z => by cases z⟩)
theorem mt9_32 : kk_36.2.2.2.1 &&& mTr = 0 := by decide +kernel
theorem mt9_33 : kk_37.2.2.2.1 &&& mTr = 0 := by decide +kernel
theorem pw14_sure {g : pH} (hG : g_I eG g) (hx : xL g) (hR : R0 g) (hT : RT g) (x1 x2 : Int32) : pr_ RT 150 258 [.inl x1, .inl x2] 0 false g := by
  unfold pr_
  refine kc_go (k := kk_36) in_k36 rfl (by decide) hG hx (vs := [pvR 0, .inl x1, .inl x2]) (xs := [cv (pvR 0), x1.toInt, x2.toInt]) ⟨by decide, ⟨⟨pvR 0, rfl, rfl, rfl, ok_0⟩, ⟨.inl x1, rfl, rfl, rfl, ok_full32 _⟩, ⟨.inl x2, rfl, rfl, rfl, ok_full32 _⟩, trivial⟩, trivial, fun c hc => by cases hc⟩ rfl (n := 0) (by decide +kernel) (fun v1 g1 c1 G1 X1 M1 => ⟨v1, rfl, c1, ?_⟩)
  have Q1 := RT_f M1 mt9_32 hT
  exact kc_go (k := kk_37) in_k37 rfl (by decide) G1 X1 (vs := [pvR 196, .inl x1, .inl x2]) (xs := [cv (pvR 196), x1.toInt, x2.toInt]) ⟨by decide, ⟨⟨pvR 196, rfl, rfl, rfl, ok_this⟩, ⟨.inl x1, rfl, rfl, rfl, ok_full32 _⟩, ⟨.inl x2, rfl, rfl, rfl, ok_full32 _⟩, trivial⟩, trivial, fun c hc => by cases hc⟩ rfl (n := 0) (by decide +kernel) (fun v2 g2 c2 G2 X2 M2 => ⟨v2, rfl, c2, G2, X2, RT_f M2 mt9_33 Q1, fun z => by cases z⟩)
theorem mt9_34 : kk_38.2.2.2.1 &&& mTr = 0 := by decide +kernel
theorem mt9_35 : kk_39.2.2.2.1 &&& mTr = 0 := by decide +kernel
theorem pw14_dots {g : pH} (hG : g_I eG g) (hx : xL g) (hR : R0 g) (hT : RT g) (x1 x2 : Int32) : pr_ RT 117 184 [.inl x1, .inl x2] 0 false g := by
  unfold pr_
  refine kc_go (k := kk_38) in_k38 rfl (by decide) hG hx (vs := [pvR 0, .inl x1, .inl x2]) (xs := [cv (pvR 0), x1.toInt, x2.toInt]) ⟨by decide, ⟨⟨pvR 0, rfl, rfl, rfl, ok_0⟩, ⟨.inl x1, rfl, rfl, rfl, ok_full32 _⟩, ⟨.inl x2, rfl, rfl, rfl, ok_full32 _⟩, trivial⟩, trivial, fun c hc => by cases hc⟩ rfl (n := 0) (by decide +kernel) (fun v1 g1 c1 G1 X1 M1 => ⟨v1, rfl, c1, ?_⟩)
  have Q1 := RT_f M1 mt9_34 hT
  exact kc_go (k := kk_39) in_k39 rfl (by decide) G1 X1 (vs := [pvR 196, .inl x1, .inl x2]) (xs := [cv (pvR 196), x1.toInt, x2.toInt]) ⟨by decide, ⟨⟨pvR 196, rfl, rfl, rfl, ok_this⟩, ⟨.inl x1, rfl, rfl, rfl, ok_full32 _⟩, ⟨.inl x2, rfl, rfl, rfl, ok_full32 _⟩, trivial⟩, trivial, fun c hc => by cases hc⟩ rfl (n := 0) (by decide +kernel) (fun v2 g2 c2 G2 X2 M2 => ⟨v2, rfl, c2, G2, X2, RT_f M2 mt9_35 Q1, fun z => by cases z⟩)
theorem mt9_36 : kk_34.2.2.2.1 &&& mTr = 0 := by decide +kernel
theorem mt9_37 : kk_35.2.2.2.1 &&& mTr = 0 := by decide +kernel
theorem pw14_lightBox {g : pH} (hG : g_I eG g) (hx : xL g) (hR : R0 g) (hT : RT g) (x1 x2 : Int32) : pr_ RT 132 219 [.inl x1, .inl x2] 1 false g := by
  unfold pr_
  refine kc_go (k := kk_34) in_k34 rfl (by decide) hG hx (vs := [pvR 0, .inl x1, .inl x2]) (xs := [cv (pvR 0), x1.toInt, x2.toInt]) ⟨by decide, ⟨⟨pvR 0, rfl, rfl, rfl, ok_0⟩, ⟨.inl x1, rfl, rfl, rfl, ok_full32 _⟩, ⟨.inl x2, rfl, rfl, rfl, ok_full32 _⟩, trivial⟩, trivial, fun c hc => by cases hc⟩ rfl (n := 1) (by decide +kernel) (fun v1 g1 c1 G1 X1 M1 => ⟨v1, rfl, c1, ?_⟩)
  have Q1 := RT_f M1 mt9_36 hT
  exact kc_go (k := kk_35) in_k35 rfl (by decide) G1 X1 (vs := [pvR 196, .inl x1, .inl x2]) (xs := [cv (pvR 196), x1.toInt, x2.toInt]) ⟨by decide, ⟨⟨pvR 196, rfl, rfl, rfl, ok_this⟩, ⟨.inl x1, rfl, rfl, rfl, ok_full32 _⟩, ⟨.inl x2, rfl, rfl, rfl, ok_full32 _⟩, trivial⟩, trivial, fun c hc => by cases hc⟩ rfl (n := 1) (by decide +kernel) (fun v2 g2 c2 G2 X2 M2 => ⟨v2, rfl, c2, G2, X2, RT_f M2 mt9_37 Q1, fun z => by cases z⟩)
theorem mt9_38 : kk_40.2.2.2.1 &&& mTr = 0 := by decide +kernel
theorem mt9_39 : kk_41.2.2.2.1 &&& mTr = 0 := by decide +kernel
theorem pw14_clue {g : pH} (hG : g_I eG g) (hx : xL g) (hR : R0 g) (hT : RT g) (x1 x2 : Int32) : pr_ RT 111 177 [.inl x1, .inl x2] 0 false g := by
  unfold pr_
  refine kc_go (k := kk_40) in_k40 rfl (by decide) hG hx (vs := [pvR 0, .inl x1, .inl x2]) (xs := [cv (pvR 0), x1.toInt, x2.toInt]) ⟨by decide, ⟨⟨pvR 0, rfl, rfl, rfl, ok_0⟩, ⟨.inl x1, rfl, rfl, rfl, ok_full32 _⟩, ⟨.inl x2, rfl, rfl, rfl, ok_full32 _⟩, trivial⟩, trivial, fun c hc => by cases hc⟩ rfl (n := 0) (by decide +kernel) (fun v1 g1 c1 G1 X1 M1 => ⟨v1, rfl, c1, ?_⟩)
  have Q1 := RT_f M1 mt9_38 hT
  exact kc_go (k := kk_41) in_k41 rfl (by decide) G1 X1 (vs := [pvR 196, .inl x1, .inl x2]) (xs := [cv (pvR 196), x1.toInt, x2.toInt]) ⟨by decide, ⟨⟨pvR 196, rfl, rfl, rfl, ok_this⟩, ⟨.inl x1, rfl, rfl, rfl, ok_full32 _⟩, ⟨.inl x2, rfl, rfl, rfl, ok_full32 _⟩, trivial⟩, trivial, fun c hc => by cases hc⟩ rfl (n := 0) (by decide +kernel) (fun v2 g2 c2 G2 X2 M2 => ⟨v2, rfl, c2, G2, X2, RT_f M2 mt9_39 Q1, fun z => by cases z⟩)
theorem mt9_40 : kk_42.2.2.2.1 &&& mTr = 0 := by decide +kernel
theorem mt9_41 : Ws &&& mTr = 0 := by decide +kernel
theorem pw14_spilt {g : pH} (hG : g_I eG g) (hx : xL g) (hR : R0 g) (hT : RT g) (x1 x2 : Int32) : pr_ RT 149 254 [.inl x1, .inl x2] 1 false g := by
  unfold pr_
  refine kc_go (k := kk_42) in_k42 rfl (by decide) hG hx (vs := [pvR 0, .inl x1, .inl x2]) (xs := [cv (pvR 0), x1.toInt, x2.toInt]) ⟨by decide, ⟨⟨pvR 0, rfl, rfl, rfl, ok_0⟩, ⟨.inl x1, rfl, rfl, rfl, ok_full32 _⟩, ⟨.inl x2, rfl, rfl, rfl, ok_full32 _⟩, trivial⟩, trivial, fun c hc => by cases hc⟩ rfl (n := 1) (by decide +kernel) (fun v1 g1 c1 G1 X1 M1 => ⟨v1, rfl, c1, ?_⟩)
  have Q1 := RT_f M1 mt9_40 hT
  exact sp9_run (n := x1.toInt) (w := x2.toInt) (by decide) G1 (i32_b _) (i32_b _) (fun z2 g2 v2 J2 t2 => ⟨_, rfl, rfl, J2.1, xL_K _ _ _ J2.2 Ws_1.2.1 X1, RT_f J2.2 mt9_41 Q1, fun z => by cases z⟩) (fun v2 z2 => ⟨_, rfl, rfl, G1, X1, Q1, fun z => by cases z⟩) rfl (congrArg some (oI_r x1)) (congrArg some (oI_r x2))
theorem mt9_42 : kk_43.2.2.2.1 &&& mTr = 0 := by decide +kernel
theorem pw14_says {g : pH} (hG : g_I eG g) (hx : xL g) (hR : R0 g) (hT : RT g) (x1 x2 x3 x4 : Int32) : pr_ RT 142 243 [.inl x1, .inl x2, .inl x3, .inl x4] 1 false g := by
  unfold pr_
  refine kc_go (k := kk_43) in_k43 rfl (by decide) hG hx (vs := [pvR 0, .inl x1, .inl x2, .inl x3, .inl x4]) (xs := [cv (pvR 0), x1.toInt, x2.toInt, x3.toInt, x4.toInt]) ⟨by decide, ⟨⟨pvR 0, rfl, rfl, rfl, ok_0⟩, ⟨.inl x1, rfl, rfl, rfl, ok_full32 _⟩, ⟨.inl x2, rfl, rfl, rfl, ok_full32 _⟩, ⟨.inl x3, rfl, rfl, rfl, ok_full32 _⟩, ⟨.inl x4, rfl, rfl, rfl, ok_full32 _⟩, trivial⟩, trivial, fun c hc => by cases hc⟩ rfl (n := 1) (by decide +kernel) (fun v1 g1 c1 G1 X1 M1 => ⟨v1, rfl, c1, ?_⟩)
  have Q1 := RT_f M1 mt9_42 hT
  exact sy9_run (n := x1.toInt) (i := x2.toInt) (j := x3.toInt) (w := x4.toInt) (by decide) G1 (i32_b _) (i32_b _) (i32_b _) (i32_b _) (fun z2 g2 v2 J2 t2 => ⟨_, rfl, rfl, J2.1, xL_K _ _ _ J2.2 Ws_1.2.1 X1, RT_f J2.2 mt9_41 Q1, fun z => by cases z⟩) (fun v2 z2 => ⟨_, rfl, rfl, G1, X1, Q1, fun z => by cases z⟩) rfl (congrArg some (oI_r x1)) (congrArg some (oI_r x2)) (congrArg some (oI_r x3)) (congrArg some (oI_r x4))
theorem mt9_43 : kk_44.2.2.2.1 &&& mTr = 0 := by decide +kernel
theorem mt9_44 : kk_45.2.2.2.1 &&& mTr = 0 := by decide +kernel
theorem pw14_shadow {g : pH} (hG : g_I eG g) (hx : xL g) (hR : R0 g) (hT : RT g) (x1 x2 x3 : Int32) : pr_ RT 145 246 [.inl x1, .inl x2, .inl x3] 0 false g := by
  unfold pr_
  refine kc_go (k := kk_44) in_k44 rfl (by decide) hG hx (vs := [pvR 0, .inl x1, .inl x2, .inl x3]) (xs := [cv (pvR 0), x1.toInt, x2.toInt, x3.toInt]) ⟨by decide, ⟨⟨pvR 0, rfl, rfl, rfl, ok_0⟩, ⟨.inl x1, rfl, rfl, rfl, ok_full32 _⟩, ⟨.inl x2, rfl, rfl, rfl, ok_full32 _⟩, ⟨.inl x3, rfl, rfl, rfl, ok_full32 _⟩, trivial⟩, trivial, fun c hc => by cases hc⟩ rfl (n := 0) (by decide +kernel) (fun v1 g1 c1 G1 X1 M1 => ⟨v1, rfl, c1, ?_⟩)
  have Q1 := RT_f M1 mt9_43 hT
  exact kc_go (k := kk_45) in_k45 rfl (by decide) G1 X1 (vs := [pvR 196, .inl x1, .inl x2, .inl x3]) (xs := [cv (pvR 196), x1.toInt, x2.toInt, x3.toInt]) ⟨by decide, ⟨⟨pvR 196, rfl, rfl, rfl, ok_this⟩, ⟨.inl x1, rfl, rfl, rfl, ok_full32 _⟩, ⟨.inl x2, rfl, rfl, rfl, ok_full32 _⟩, ⟨.inl x3, rfl, rfl, rfl, ok_full32 _⟩, trivial⟩, trivial, fun c hc => by cases hc⟩ rfl (n := 0) (by decide +kernel) (fun v2 g2 c2 G2 X2 M2 => ⟨v2, rfl, c2, G2, X2, RT_f M2 mt9_44 Q1, fun z => by cases z⟩)
theorem mt9_45 : kk_46.2.2.2.1 &&& mTr = 0 := by decide +kernel
theorem mt9_46 : kk_47.2.2.2.1 &&& mTr = 0 := by decide +kernel
theorem pw14_link {g : pH} (hG : g_I eG g) (hx : xL g) (hR : R0 g) (hT : RT g) (x1 x2 : Int32) : pr_ RT 133 220 [.inl x1, .inl x2] 0 false g := by
  unfold pr_
  refine kc_go (k := kk_46) in_k46 rfl (by decide) hG hx (vs := [pvR 0, .inl x1, .inl x2]) (xs := [cv (pvR 0), x1.toInt, x2.toInt]) ⟨by decide, ⟨⟨pvR 0, rfl, rfl, rfl, ok_0⟩, ⟨.inl x1, rfl, rfl, rfl, ok_full32 _⟩, ⟨.inl x2, rfl, rfl, rfl, ok_full32 _⟩, trivial⟩, trivial, fun c hc => by cases hc⟩ rfl (n := 0) (by decide +kernel) (fun v1 g1 c1 G1 X1 M1 => ⟨v1, rfl, c1, ?_⟩)
  have Q1 := RT_f M1 mt9_45 hT
  exact kc_go (k := kk_47) in_k47 rfl (by decide) G1 X1 (vs := [pvR 196, .inl x1, .inl x2]) (xs := [cv (pvR 196), x1.toInt, x2.toInt]) ⟨by decide, ⟨⟨pvR 196, rfl, rfl, rfl, ok_this⟩, ⟨.inl x1, rfl, rfl, rfl, ok_full32 _⟩, ⟨.inl x2, rfl, rfl, rfl, ok_full32 _⟩, trivial⟩, trivial, fun c hc => by cases hc⟩ rfl (n := 0) (by decide +kernel) (fun v2 g2 c2 G2 X2 M2 => ⟨v2, rfl, c2, G2, X2, RT_f M2 mt9_46 Q1, fun z => by cases z⟩)
theorem mt9_47 : kk_48.2.2.2.1 &&& mTr = 0 := by decide +kernel
theorem mt9_48 : kk_49.2.2.2.1 &&& mTr = 0 := by decide +kernel
theorem pw14_leftOut {g : pH} (hG : g_I eG g) (hx : xL g) (hR : R0 g) (hT : RT g) (x1 x2 : Int32) : pr_ RT 131 218 [.inl x1, .inl x2] 0 false g := by
  unfold pr_
  refine kc_go (k := kk_48) in_k48 rfl (by decide) hG hx (vs := [pvR 0, .inl x1, .inl x2]) (xs := [cv (pvR 0), x1.toInt, x2.toInt]) ⟨by decide, ⟨⟨pvR 0, rfl, rfl, rfl, ok_0⟩, ⟨.inl x1, rfl, rfl, rfl, ok_full32 _⟩, ⟨.inl x2, rfl, rfl, rfl, ok_full32 _⟩, trivial⟩, trivial, fun c hc => by cases hc⟩ rfl (n := 0) (by decide +kernel) (fun v1 g1 c1 G1 X1 M1 => ⟨v1, rfl, c1, ?_⟩)
  have Q1 := RT_f M1 mt9_47 hT
  exact kc_go (k := kk_49) in_k49 rfl (by decide) G1 X1 (vs := [pvR 196, .inl x1, .inl x2]) (xs := [cv (pvR 196), x1.toInt, x2.toInt]) ⟨by decide, ⟨⟨pvR 196, rfl, rfl, rfl, ok_this⟩, ⟨.inl x1, rfl, rfl, rfl, ok_full32 _⟩, ⟨.inl x2, rfl, rfl, rfl, ok_full32 _⟩, trivial⟩, trivial, fun c hc => by cases hc⟩ rfl (n := 0) (by decide +kernel) (fun v2 g2 c2 G2 X2 M2 => ⟨v2, rfl, c2, G2, X2, RT_f M2 mt9_48 Q1, fun z => by cases z⟩)
theorem mt9_49 : kk_50.2.2.2.1 &&& mTr = 0 := by decide +kernel
theorem mt9_50 : kk_51.2.2.2.1 &&& mTr = 0 := by decide +kernel
theorem pw14_lamp {g : pH} (hG : g_I eG g) (hx : xL g) (hR : R0 g) (hT : RT g) (x1 x2 x3 : Int32) : pr_ RT 127 210 [.inl x1, .inl x2, .inl x3] 1 false g := by
  unfold pr_
  refine kc_go (k := kk_50) in_k50 rfl (by decide) hG hx (vs := [pvR 0, .inl x1, .inl x2, .inl x3]) (xs := [cv (pvR 0), x1.toInt, x2.toInt, x3.toInt]) ⟨by decide, ⟨⟨pvR 0, rfl, rfl, rfl, ok_0⟩, ⟨.inl x1, rfl, rfl, rfl, ok_full32 _⟩, ⟨.inl x2, rfl, rfl, rfl, ok_full32 _⟩, ⟨.inl x3, rfl, rfl, rfl, ok_full32 _⟩, trivial⟩, trivial, fun c hc => by cases hc⟩ rfl (n := 1) (by decide +kernel) (fun v1 g1 c1 G1 X1 M1 => ⟨v1, rfl, c1, ?_⟩)
  have Q1 := RT_f M1 mt9_49 hT
  exact kc_go (k := kk_51) in_k51 rfl (by decide) G1 X1 (vs := [pvR 196, .inl x1, .inl x2, .inl x3]) (xs := [cv (pvR 196), x1.toInt, x2.toInt, x3.toInt]) ⟨by decide, ⟨⟨pvR 196, rfl, rfl, rfl, ok_this⟩, ⟨.inl x1, rfl, rfl, rfl, ok_full32 _⟩, ⟨.inl x2, rfl, rfl, rfl, ok_full32 _⟩, ⟨.inl x3, rfl, rfl, rfl, ok_full32 _⟩, trivial⟩, trivial, fun c hc => by cases hc⟩ rfl (n := 1) (by decide +kernel) (fun v2 g2 c2 G2 X2 M2 => ⟨v2, rfl, c2, G2, X2, RT_f M2 mt9_50 Q1, fun z => by cases z⟩)
theorem mt9_51 : kk_52.2.2.2.1 &&& mTr = 0 := by decide +kernel
theorem mt9_52 : kk_53.2.2.2.1 &&& mTr = 0 := by decide +kernel
theorem pw14_hand {g : pH} (hG : g_I eG g) (hx : xL g) (hR : R0 g) (hT : RT g) (x1 : Int32) : pr_ RT 121 195 [.inl x1] 1 false g := by
  unfold pr_
  refine kc_go (k := kk_52) in_k52 rfl (by decide) hG hx (vs := [pvR 0, .inl x1]) (xs := [cv (pvR 0), x1.toInt]) ⟨by decide, ⟨⟨pvR 0, rfl, rfl, rfl, ok_0⟩, ⟨.inl x1, rfl, rfl, rfl, ok_full32 _⟩, trivial⟩, trivial, fun c hc => by cases hc⟩ rfl (n := 1) (by decide +kernel) (fun v1 g1 c1 G1 X1 M1 => ⟨v1, rfl, c1, ?_⟩)
  have Q1 := RT_f M1 mt9_51 hT
  exact kc_go (k := kk_53) in_k53 rfl (by decide) G1 X1 (vs := [pvR 196, .inl x1]) (xs := [cv (pvR 196), x1.toInt]) ⟨by decide, ⟨⟨pvR 196, rfl, rfl, rfl, ok_this⟩, ⟨.inl x1, rfl, rfl, rfl, ok_full32 _⟩, trivial⟩, trivial, fun c hc => by cases hc⟩ rfl (n := 1) (by decide +kernel) (fun v2 g2 c2 G2 X2 M2 => ⟨v2, rfl, c2, G2, X2, RT_f M2 mt9_52 Q1, fun z => by cases z⟩)
theorem mt9_53 : kk_54.2.2.2.1 &&& mTr = 0 := by decide +kernel
theorem mt9_54 : Wp &&& mTr = 0 := by decide +kernel
theorem pw14_putIn {g : pH} (hG : g_I eG g) (hx : xL g) (hR : R0 g) (hT : RT g) : pr_ RT 140 232 [] 0 false g := by
  unfold pr_
  refine kc_go (k := kk_54) in_k54 rfl (by decide) hG hx (vs := [pvR 0]) (xs := [cv (pvR 0)]) ⟨by decide, ⟨⟨pvR 0, rfl, rfl, rfl, ok_0⟩, trivial⟩, trivial, fun c hc => by cases hc⟩ rfl (n := 0) (by decide +kernel) (fun v1 g1 c1 G1 X1 M1 => ⟨v1, rfl, c1, ?_⟩)
  have Q1 := RT_f M1 mt9_53 hT
  exact pi_run (by decide) (by decide) G1 X1 (fun g2 z2 J2 => ⟨_, rfl, rfl, J2.1, xL_K _ _ _ J2.2 Wp_1.2.2.1 X1, RT_f J2.2 mt9_54 Q1, fun z => by cases z⟩) rfl
theorem mt9_55 : kk_55.2.2.2.1 &&& mTr = 0 := by decide +kernel
theorem mt9_56 : kk_56.2.2.2.1 &&& mTr = 0 := by decide +kernel
theorem pw14_seed {g : pH} (hG : g_I eG g) (hx : xL g) (hR : R0 g) (hT : RT g) (x1 : Int32) : pr_ RT 144 245 [.inl x1] 0 false g := by
  unfold pr_
  refine kc_go (k := kk_55) in_k55 rfl (by decide) hG hx (vs := [pvR 0, .inl x1]) (xs := [cv (pvR 0), x1.toInt]) ⟨by decide, ⟨⟨pvR 0, rfl, rfl, rfl, ok_0⟩, ⟨.inl x1, rfl, rfl, rfl, ok_full32 _⟩, trivial⟩, trivial, fun c hc => by cases hc⟩ rfl (n := 0) (by decide +kernel) (fun v1 g1 c1 G1 X1 M1 => ⟨v1, rfl, c1, ?_⟩)
  have Q1 := RT_f M1 mt9_55 hT
  exact kc_go (k := kk_56) in_k56 rfl (by decide) G1 X1 (vs := [pvR 196, .inl x1]) (xs := [cv (pvR 196), x1.toInt]) ⟨by decide, ⟨⟨pvR 196, rfl, rfl, rfl, ok_this⟩, ⟨.inl x1, rfl, rfl, rfl, ok_full32 _⟩, trivial⟩, trivial, fun c hc => by cases hc⟩ rfl (n := 0) (by decide +kernel) (fun v2 g2 c2 G2 X2 M2 => ⟨v2, rfl, c2, G2, X2, RT_f M2 mt9_56 Q1, fun z => by cases z⟩)
theorem mt9_57 : kk_57.2.2.2.1 &&& mTr = 0 := by decide +kernel
theorem mt9_58 : kk_58.2.2.2.1 &&& mTr = 0 := by decide +kernel
theorem pw14_keep {g : pH} (hG : g_I eG g) (hx : xL g) (hR : R0 g) (hT : RT g) : pr_ RT 126 209 [] 0 false g := by
  unfold pr_
  refine kc_go (k := kk_57) in_k57 rfl (by decide) hG hx (vs := [pvR 0]) (xs := [cv (pvR 0)]) ⟨by decide, ⟨⟨pvR 0, rfl, rfl, rfl, ok_0⟩, trivial⟩, trivial, fun c hc => by cases hc⟩ rfl (n := 0) (by decide +kernel) (fun v1 g1 c1 G1 X1 M1 => ⟨v1, rfl, c1, ?_⟩)
  have Q1 := RT_f M1 mt9_57 hT
  exact kc_go (k := kk_58) in_k58 rfl (by decide) G1 X1 (vs := [pvR 196]) (xs := [cv (pvR 196)]) ⟨by decide, ⟨⟨pvR 196, rfl, rfl, rfl, ok_this⟩, trivial⟩, trivial, fun c hc => by cases hc⟩ rfl (n := 0) (by decide +kernel) (fun v2 g2 c2 G2 X2 M2 => ⟨v2, rfl, c2, G2, X2, RT_f M2 mt9_58 Q1, fun z => by cases z⟩)
theorem mt9_59 : kk_59.2.2.2.1 &&& mTr = 0 := by decide +kernel
theorem mt9_60 : kk_60.2.2.2.1 &&& mTr = 0 := by decide +kernel
theorem pw14_undo {g : pH} (hG : g_I eG g) (hx : xL g) (hR : R0 g) (hT : RT g) : pr_ RT 160 270 [] 0 false g := by
  unfold pr_
  refine kc_go (k := kk_59) in_k59 rfl (by decide) hG hx (vs := [pvR 0]) (xs := [cv (pvR 0)]) ⟨by decide, ⟨⟨pvR 0, rfl, rfl, rfl, ok_0⟩, trivial⟩, trivial, fun c hc => by cases hc⟩ rfl (n := 0) (by decide +kernel) (fun v1 g1 c1 G1 X1 M1 => ⟨v1, rfl, c1, ?_⟩)
  have Q1 := RT_f M1 mt9_59 hT
  exact kc_go (k := kk_60) in_k60 rfl (by decide) G1 X1 (vs := [pvR 196]) (xs := [cv (pvR 196)]) ⟨by decide, ⟨⟨pvR 196, rfl, rfl, rfl, ok_this⟩, trivial⟩, trivial, fun c hc => by cases hc⟩ rfl (n := 0) (by decide +kernel) (fun v2 g2 c2 G2 X2 M2 => ⟨v2, rfl, c2, G2, X2, RT_f M2 mt9_60 Q1, fun z => by cases z⟩)
theorem mt9_61 : kk_61.2.2.2.1 &&& mTr = 0 := by decide +kernel
theorem mt9_62 : kk_62.2.2.2.1 &&& mTr = 0 := by decide +kernel
theorem pw14_check {g : pH} (hG : g_I eG g) (hx : xL g) (hR : R0 g) (hT : RT g) (x1 x2 : Int32) : pr_ RT 110 174 [.inl x1, .inl x2] 0 false g := by
  unfold pr_
  refine kc_go (k := kk_61) in_k61 rfl (by decide) hG hx (vs := [pvR 0, .inl x1, .inl x2]) (xs := [cv (pvR 0), x1.toInt, x2.toInt]) ⟨by decide, ⟨⟨pvR 0, rfl, rfl, rfl, ok_0⟩, ⟨.inl x1, rfl, rfl, rfl, ok_full32 _⟩, ⟨.inl x2, rfl, rfl, rfl, ok_full32 _⟩, trivial⟩, trivial, fun c hc => by cases hc⟩ rfl (n := 0) (by decide +kernel) (fun v1 g1 c1 G1 X1 M1 => ⟨v1, rfl, c1, ?_⟩)
  have Q1 := RT_f M1 mt9_61 hT
  exact kc_go (k := kk_62) in_k62 rfl (by decide) G1 X1 (vs := [pvR 196, .inl x1, .inl x2]) (xs := [cv (pvR 196), x1.toInt, x2.toInt]) ⟨by decide, ⟨⟨pvR 196, rfl, rfl, rfl, ok_this⟩, ⟨.inl x1, rfl, rfl, rfl, ok_full32 _⟩, ⟨.inl x2, rfl, rfl, rfl, ok_full32 _⟩, trivial⟩, trivial, fun c hc => by cases hc⟩ rfl (n := 0) (by decide +kernel) (fun v2 g2 c2 G2 X2 M2 => ⟨v2, rfl, c2, G2, X2, RT_f M2 mt9_62 Q1, fun z => by cases z⟩)
theorem mt9_63 : kk_63.2.2.2.1 &&& mTr = 0 := by decide +kernel
theorem mt9_64 : kk_64.2.2.2.1 &&& mTr = 0 := by decide +kernel
theorem pw14_count {g : pH} (hG : g_I eG g) (hx : xL g) (hR : R0 g) (hT : RT g) (x1 : Int32) : pr_ RT 115 182 [.inl x1] 0 false g := by
  unfold pr_
  refine kc_go (k := kk_63) in_k63 rfl (by decide) hG hx (vs := [pvR 0, .inl x1]) (xs := [cv (pvR 0), x1.toInt]) ⟨by decide, ⟨⟨pvR 0, rfl, rfl, rfl, ok_0⟩, ⟨.inl x1, rfl, rfl, rfl, ok_full32 _⟩, trivial⟩, trivial, fun c hc => by cases hc⟩ rfl (n := 0) (by decide +kernel) (fun v1 g1 c1 G1 X1 M1 => ⟨v1, rfl, c1, ?_⟩)
  have Q1 := RT_f M1 mt9_63 hT
  exact kc_go (k := kk_64) in_k64 rfl (by decide) G1 X1 (vs := [pvR 196, .inl x1]) (xs := [cv (pvR 196), x1.toInt]) ⟨by decide, ⟨⟨pvR 196, rfl, rfl, rfl, ok_this⟩, ⟨.inl x1, rfl, rfl, rfl, ok_full32 _⟩, trivial⟩, trivial, fun c hc => by cases hc⟩ rfl (n := 0) (by decide +kernel) (fun v2 g2 c2 G2 X2 M2 => ⟨v2, rfl, c2, G2, X2, RT_f M2 mt9_64 Q1, fun z => by cases z⟩)
theorem pn_150 : (tN150.testBit (cn 211) = false ∧ tX150.testBit (cn 211) = false ∧ tN150.testBit (cn 196 + 17) = false ∧ tX150.testBit (cn 196 + 17) = false) ∧ tN150 &&& eDX = 0 ∧ tX150 &&& eDX = 0 ∧ (tN150.testBit (cn 0 + 5) = false ∧ tN150.testBit (cn 0 + 6) = false ∧ tN150.testBit (cn 152 + 1) = false ∧ tN150.testBit (cn 153) = false ∧ tN150.testBit (cn 196 + 24) = false ∧ tN150.testBit (cn 212) = false) ∧ (nV.testBit (cn 0 + 5) = false ∧ nV.testBit (cn 0 + 6) = false ∧ nV.testBit (cn 152 + 1) = false ∧ nV.testBit (cn 153) = false ∧ nV.testBit (cn 150 + 1) = false ∧ nV.testBit (cn 151) = false) ∧ nV &&& eDX = 0 := by decide +kernel
theorem pq_150 {g : pH} (hG : g_I eG g) (hx : xL g) (hR : R0 g) (hT0 : rT g 152 150 153) (x1 : Int32) : pr_ RT 157 264 [.inl x1] 0 true g := by
  obtain ⟨⟨p1, p2, p3, p4⟩, p5, p6, ⟨p7, p8, p9, p10, p11, p12⟩, ⟨p13, p14, p15, p16, p17, p18⟩, p19⟩ := pn_150
  have hb := cb_0_1 hG
  have hl := hR.2
  have hT := hR.1.2.1
  unfold pr_
  have key : ∀ (W : Nat) (g1 : pH), J_ W g g1 → W.testBit (cn 211) = false → W.testBit (cn 196 + 17) = false → W &&& eDX = 0 → ∀ (r : tR) (c0 : tC) (z : Int), ((1 ≤ x1.toInt ∧ x1.toInt ≤ 120 ∧ x1.toInt ≤ cF g 0 1) → tIs (tH (fA g 1) x1.toInt) x1.toInt 0 0 0 c0 r) → (∀ f, r = .inl f → z = f) → (∀ p1 m1 c1, r = .inr (p1, m1, c1) → (0 ≤ p1 ∧ p1 ≤ x1.toInt) ∧ (0 ≤ m1 ∧ m1 ≤ 60) ∧ (p1 < x1.toInt → z = -1000 - p1) ∧ (x1.toInt ≤ p1 → z = m1)) → (¬ (1 ≤ x1.toInt ∧ x1.toInt ≤ 120 ∧ x1.toInt ≤ cF g 0 1) → z = -1 ∧ RT g1) → ((∃ f, r = .inl f) ∨ (∃ p1 m1 c1, r = .inr (p1, m1, c1) ∧ p1 < x1.toInt) → rT g1 152 150 153) → (∀ p1 m1 c1, r = .inr (p1, m1, c1) → x1.toInt ≤ p1 → g1.2.2.1 0 5 = some 150 ∧ g1.2.2.1 0 6 = some 152 ∧ cF g1 150 1 = m1 ∧ fA g1 151 = c1) → t_X 99 264 0 (px_ar 0 [pvR 196, .inl x1]) [] g1 (fun o2 => ∃ v2, o2.1 = some v2 ∧ ct v2 = 0 ∧ g_I eG o2.2 ∧ xL o2.2 ∧ RT o2.2 ∧ (true = true → oI z = v2)) := by
    intro W g1 J1 w1 w2 w3 r c0 z hr hF hO hZ hA hS
    have hx1 := xL_K _ _ _ J1.2 w3 hx
    have e17 : cF g1 196 17 = cF g 0 1 := (cF_M J1.2 w2).trans hl.symm
    have hS0 : sE nvk nva nV g1 g1 [cF g1 196 18, cF g1 196 25, cF g1 196 26, cF g1 196 20, cF g1 196 17, cF g1 196 24, cF g1 196 19] [fA g1 213, fA g1 212] := S_0 J1.1
    have hk : ∀ g2, J_ nV g1 g2 → cF g2 196 24 = cF g1 196 24 → fA g2 212 = fA g1 212 → rT g1 152 150 153 → RT g2 := fun g2 J2 y1 y2 h => Or.inr ⟨(J2.2.1 0 5 p13).2.2.trans h.1, (J2.2.1 0 6 p14).2.2.trans h.2.1, by rw [cF_M J2.2 p15, y1]; exact h.2.2.1, fun j hj => by rw [y1] at hj; rw [fA_M J2.2 p16, y2]; exact h.2.2.2 j hj⟩
    refine mt_run (by decide) hS0 (by omega) (i32_b x1) (B := fA g 1) (c0 := c0) (r := r) (by rw [fA_M J1.2 w1]; exact hT) (fun h => ?_) (fun h => hr (by rw [e17] at h; exact h)) (fun f e _ g2 J2 _ y1 y2 => ?_) (fun p1 m1 c1 e _ => ?_) rfl (congrArg some (oI_r x1))
    · rw [e17] at h
      have q := hZ h
      exact ⟨_, rfl, rfl, J1.1, hx1, q.2, fun _ => by rw [q.1]⟩
    · exact ⟨_, rfl, rfl, J2.1, xL_K _ _ _ J2.2 p19 hx1, hk g2 J2 y1 y2 (hA (Or.inl ⟨f, e⟩)), fun _ => by rw [hF f e]⟩
    · have q := hO p1 m1 c1 e
      refine ⟨q.1, q.2.1, fun h g2 J2 _ y1 y2 => ?_, fun h g2 J2 _ y1 y2 => ?_⟩
      · exact ⟨_, rfl, rfl, J2.1, xL_K _ _ _ J2.2 p19 hx1, hk g2 J2 y1 y2 (hA (Or.inr ⟨p1, m1, c1, e, h⟩)), fun _ => by rw [q.2.2.1 h]⟩
      · obtain ⟨s1, s2, s3, s4⟩ := hS p1 m1 c1 e h
        exact ⟨_, rfl, rfl, J2.1, xL_K _ _ _ J2.2 p19 hx1, Or.inl ⟨(J2.2.1 0 5 p13).2.2.trans s1, (J2.2.1 0 6 p14).2.2.trans s2, by rw [cF_M J2.2 p17, y1]; exact s3, fun j hj => by rw [y1] at hj; rw [fA_M J2.2 p18, s4]; exact (y2 j hj).symm⟩, fun _ => by rw [q.2.2.2 h]⟩
  have hS : sE thk [] 0 g g [cF g 0 1] [] := S_0 hG
  have fr : ∀ g1, J_ tN150 g g1 → rT g1 152 150 153 := fun g1 J1 => rT_f J1.2 p7 p8 p9 p10 p11 p12 hT0
  refine tr150_run (by decide) hS hb hT0.2.1 hT0.1 (by decide) (i32_b x1) (fun h => ?_) (fun h g1 f c J1 _ u1 hx9 => ?_) (fun h g1 p m c c1 J1 _ y0 y1 y2 hx9 => ?_) (fun h g1 m c c1 J1 _ s1 s2 s3 s4 hm hx9 => ?_) rfl (congrArg some (oI_r x1))
  · exact ⟨_, rfl, rfl, key 0 g (J_rf hG) (Nat.zero_testBit _) (Nat.zero_testBit _) (Nat.zero_and _) (.inl (-1)) (fun _ => 0) (-1) (fun z => absurd z h) (fun f e => by cases e; rfl) (fun p1 m1 c1 e => by cases e) (fun _ => ⟨rfl, Or.inr hT0⟩) (fun _ => hT0) (fun p1 m1 c1 e => by cases e)⟩
  · exact ⟨_, rfl, rfl, key _ g1 J1 p1 p3 p5 (.inl f) c f (fun _ => hx9) (fun f' e => by cases e; rfl) (fun p1 m1 c1 e => by cases e) (fun z => absurd h z) (fun _ => fr g1 J1) (fun p1 m1 c1 e => by cases e)⟩
  · exact ⟨_, rfl, rfl, key _ g1 J1 p1 p3 p5 (.inr (p, m, c1)) c (-1000 - p) (fun _ => hx9) (fun f' e => by cases e) (fun p1 m1 c2 e => by cases e; exact ⟨⟨y0, by omega⟩, y2, fun _ => rfl, fun z => absurd z (by omega)⟩) (fun z => absurd h z) (fun _ => fr g1 J1) (fun p1 m1 c2 e z => by cases e; exact absurd z (by omega))⟩
  · exact ⟨_, rfl, rfl, key _ g1 J1 p2 p4 p6 (.inr (x1.toInt, m, c1)) c m (fun _ => hx9) (fun f' e => by cases e) (fun p1 m1 c2 e => by cases e; exact ⟨⟨by omega, by omega⟩, ⟨by omega, hm.2⟩, fun z => absurd z (by omega), fun _ => rfl⟩) (fun z => absurd h z) (fun z => by
      rcases z with ⟨f, z⟩ | ⟨p9, m9, c9, z, z2⟩
      · cases z
      · cases z
        exact absurd z2 (by omega)) (fun p1 m1 c2 e _ => by cases e; exact ⟨s1, s2, s3, s4⟩)⟩
theorem pn_152 : (tN152.testBit (cn 211) = false ∧ tX152.testBit (cn 211) = false ∧ tN152.testBit (cn 196 + 17) = false ∧ tX152.testBit (cn 196 + 17) = false) ∧ tN152 &&& eDX = 0 ∧ tX152 &&& eDX = 0 ∧ (tN152.testBit (cn 0 + 5) = false ∧ tN152.testBit (cn 0 + 6) = false ∧ tN152.testBit (cn 150 + 1) = false ∧ tN152.testBit (cn 151) = false ∧ tN152.testBit (cn 196 + 24) = false ∧ tN152.testBit (cn 212) = false) ∧ (nV.testBit (cn 0 + 5) = false ∧ nV.testBit (cn 0 + 6) = false ∧ nV.testBit (cn 150 + 1) = false ∧ nV.testBit (cn 151) = false ∧ nV.testBit (cn 152 + 1) = false ∧ nV.testBit (cn 153) = false) ∧ nV &&& eDX = 0 := by decide +kernel
theorem pq_152 {g : pH} (hG : g_I eG g) (hx : xL g) (hR : R0 g) (hT0 : rT g 150 152 151) (x1 : Int32) : pr_ RT 157 264 [.inl x1] 0 true g := by
  obtain ⟨⟨p1, p2, p3, p4⟩, p5, p6, ⟨p7, p8, p9, p10, p11, p12⟩, ⟨p13, p14, p15, p16, p17, p18⟩, p19⟩ := pn_152
  have hb := cb_0_1 hG
  have hl := hR.2
  have hT := hR.1.2.1
  unfold pr_
  have key : ∀ (W : Nat) (g1 : pH), J_ W g g1 → W.testBit (cn 211) = false → W.testBit (cn 196 + 17) = false → W &&& eDX = 0 → ∀ (r : tR) (c0 : tC) (z : Int), ((1 ≤ x1.toInt ∧ x1.toInt ≤ 120 ∧ x1.toInt ≤ cF g 0 1) → tIs (tH (fA g 1) x1.toInt) x1.toInt 0 0 0 c0 r) → (∀ f, r = .inl f → z = f) → (∀ p1 m1 c1, r = .inr (p1, m1, c1) → (0 ≤ p1 ∧ p1 ≤ x1.toInt) ∧ (0 ≤ m1 ∧ m1 ≤ 60) ∧ (p1 < x1.toInt → z = -1000 - p1) ∧ (x1.toInt ≤ p1 → z = m1)) → (¬ (1 ≤ x1.toInt ∧ x1.toInt ≤ 120 ∧ x1.toInt ≤ cF g 0 1) → z = -1 ∧ RT g1) → ((∃ f, r = .inl f) ∨ (∃ p1 m1 c1, r = .inr (p1, m1, c1) ∧ p1 < x1.toInt) → rT g1 150 152 151) → (∀ p1 m1 c1, r = .inr (p1, m1, c1) → x1.toInt ≤ p1 → g1.2.2.1 0 5 = some 152 ∧ g1.2.2.1 0 6 = some 150 ∧ cF g1 152 1 = m1 ∧ fA g1 153 = c1) → t_X 99 264 0 (px_ar 0 [pvR 196, .inl x1]) [] g1 (fun o2 => ∃ v2, o2.1 = some v2 ∧ ct v2 = 0 ∧ g_I eG o2.2 ∧ xL o2.2 ∧ RT o2.2 ∧ (true = true → oI z = v2)) := by
    intro W g1 J1 w1 w2 w3 r c0 z hr hF hO hZ hA hS
    have hx1 := xL_K _ _ _ J1.2 w3 hx
    have e17 : cF g1 196 17 = cF g 0 1 := (cF_M J1.2 w2).trans hl.symm
    have hS0 : sE nvk nva nV g1 g1 [cF g1 196 18, cF g1 196 25, cF g1 196 26, cF g1 196 20, cF g1 196 17, cF g1 196 24, cF g1 196 19] [fA g1 213, fA g1 212] := S_0 J1.1
    have hk : ∀ g2, J_ nV g1 g2 → cF g2 196 24 = cF g1 196 24 → fA g2 212 = fA g1 212 → rT g1 150 152 151 → RT g2 := fun g2 J2 y1 y2 h => Or.inl ⟨(J2.2.1 0 5 p13).2.2.trans h.1, (J2.2.1 0 6 p14).2.2.trans h.2.1, by rw [cF_M J2.2 p15, y1]; exact h.2.2.1, fun j hj => by rw [y1] at hj; rw [fA_M J2.2 p16, y2]; exact h.2.2.2 j hj⟩
    refine mt_run (by decide) hS0 (by omega) (i32_b x1) (B := fA g 1) (c0 := c0) (r := r) (by rw [fA_M J1.2 w1]; exact hT) (fun h => ?_) (fun h => hr (by rw [e17] at h; exact h)) (fun f e _ g2 J2 _ y1 y2 => ?_) (fun p1 m1 c1 e _ => ?_) rfl (congrArg some (oI_r x1))
    · rw [e17] at h
      have q := hZ h
      exact ⟨_, rfl, rfl, J1.1, hx1, q.2, fun _ => by rw [q.1]⟩
    · exact ⟨_, rfl, rfl, J2.1, xL_K _ _ _ J2.2 p19 hx1, hk g2 J2 y1 y2 (hA (Or.inl ⟨f, e⟩)), fun _ => by rw [hF f e]⟩
    · have q := hO p1 m1 c1 e
      refine ⟨q.1, q.2.1, fun h g2 J2 _ y1 y2 => ?_, fun h g2 J2 _ y1 y2 => ?_⟩
      · exact ⟨_, rfl, rfl, J2.1, xL_K _ _ _ J2.2 p19 hx1, hk g2 J2 y1 y2 (hA (Or.inr ⟨p1, m1, c1, e, h⟩)), fun _ => by rw [q.2.2.1 h]⟩
      · obtain ⟨s1, s2, s3, s4⟩ := hS p1 m1 c1 e h
        exact ⟨_, rfl, rfl, J2.1, xL_K _ _ _ J2.2 p19 hx1, Or.inr ⟨(J2.2.1 0 5 p13).2.2.trans s1, (J2.2.1 0 6 p14).2.2.trans s2, by rw [cF_M J2.2 p17, y1]; exact s3, fun j hj => by rw [y1] at hj; rw [fA_M J2.2 p18, s4]; exact (y2 j hj).symm⟩, fun _ => by rw [q.2.2.2 h]⟩
  have hS : sE thk [] 0 g g [cF g 0 1] [] := S_0 hG
  have fr : ∀ g1, J_ tN152 g g1 → rT g1 150 152 151 := fun g1 J1 => rT_f J1.2 p7 p8 p9 p10 p11 p12 hT0
  refine tr152_run (by decide) hS hb hT0.2.1 hT0.1 (by decide) (i32_b x1) (fun h => ?_) (fun h g1 f c J1 _ u1 hx9 => ?_) (fun h g1 p m c c1 J1 _ y0 y1 y2 hx9 => ?_) (fun h g1 m c c1 J1 _ s1 s2 s3 s4 hm hx9 => ?_) rfl (congrArg some (oI_r x1))
  · exact ⟨_, rfl, rfl, key 0 g (J_rf hG) (Nat.zero_testBit _) (Nat.zero_testBit _) (Nat.zero_and _) (.inl (-1)) (fun _ => 0) (-1) (fun z => absurd z h) (fun f e => by cases e; rfl) (fun p1 m1 c1 e => by cases e) (fun _ => ⟨rfl, Or.inl hT0⟩) (fun _ => hT0) (fun p1 m1 c1 e => by cases e)⟩
  · exact ⟨_, rfl, rfl, key _ g1 J1 p1 p3 p5 (.inl f) c f (fun _ => hx9) (fun f' e => by cases e; rfl) (fun p1 m1 c1 e => by cases e) (fun z => absurd h z) (fun _ => fr g1 J1) (fun p1 m1 c1 e => by cases e)⟩
  · exact ⟨_, rfl, rfl, key _ g1 J1 p1 p3 p5 (.inr (p, m, c1)) c (-1000 - p) (fun _ => hx9) (fun f' e => by cases e) (fun p1 m1 c2 e => by cases e; exact ⟨⟨y0, by omega⟩, y2, fun _ => rfl, fun z => absurd z (by omega)⟩) (fun z => absurd h z) (fun _ => fr g1 J1) (fun p1 m1 c2 e z => by cases e; exact absurd z (by omega))⟩
  · exact ⟨_, rfl, rfl, key _ g1 J1 p2 p4 p6 (.inr (x1.toInt, m, c1)) c m (fun _ => hx9) (fun f' e => by cases e) (fun p1 m1 c2 e => by cases e; exact ⟨⟨by omega, by omega⟩, ⟨by omega, hm.2⟩, fun z => absurd z (by omega), fun _ => rfl⟩) (fun z => absurd h z) (fun z => by
      rcases z with ⟨f, z⟩ | ⟨p9, m9, c9, z, z2⟩
      · cases z
      · cases z
        exact absurd z2 (by omega)) (fun p1 m1 c2 e _ => by cases e; exact ⟨s1, s2, s3, s4⟩)⟩
theorem pw14_tray {g : pH} (hG : g_I eG g) (hx : xL g) (hR : R0 g) (hT : RT g) (x1 : Int32) : pr_ RT 157 264 [.inl x1] 0 true g := by
  rcases hT with h | h
  · exact pq_152 hG hx hR h x1
  · exact pq_150 hG hx hR h x1
def yi150k : List (Nat × Nat) := [(150, 1)]
def yi150a : List Nat := [151]
def yi152k : List (Nat × Nat) := [(152, 1)]
def yi152a : List Nat := [153]
def ymk : List (Nat × Nat) := [(196, 24)]
def yma : List Nat := [212]
theorem heo_0 : eL[0]? = some (0, 11) := by decide +kernel
theorem heo_150 : eL[150]? = some (0, 9) := by decide +kernel
theorem heo_152 : eL[152]? = some (0, 9) := by decide +kernel
theorem heo_196 : eL[196]? = some (0, 12) := by decide +kernel
theorem hgu_151 : eG (cn 151) = ((-40), 90, []) := by decide +kernel
theorem hgu_153 : eG (cn 153) = ((-40), 90, []) := by decide +kernel
theorem hgu_212 : eG (cn 212) = (0, 31, []) := by decide +kernel
theorem hch_150_0 : (eG (cn 150 + 0)).2.2 = [152] := by decide +kernel
theorem hcq_150_0 {d i : Nat} {lv : List (Nat × pv)} {r : List pv} {g : pH} (hG : g_I eG g) : px_push eL d none (.getfield i) 9 0 lv (pvR 150 :: r) g = some (pvR 151 :: r) := pget heo_150 (gI_r (r := 151) hG heo_150 (Nat.le_of_ble_eq_true rfl) (y := 0) rfl hch_150_0)
theorem hch_152_0 : (eG (cn 152 + 0)).2.2 = [154] := by decide +kernel
theorem hcq_152_0 {d i : Nat} {lv : List (Nat × pv)} {r : List pv} {g : pH} (hG : g_I eG g) : px_push eL d none (.getfield i) 9 0 lv (pvR 152 :: r) g = some (pvR 153 :: r) := pget heo_152 (gI_r (r := 153) hG heo_152 (Nat.le_of_ble_eq_true rfl) (y := 0) rfl hch_152_0)
theorem hch_196_27 : (eG (cn 196 + 27)).2.2 = [213] := by decide +kernel
theorem hcq_196_27 {d i : Nat} {lv : List (Nat × pv)} {r : List pv} {g : pH} (hG : g_I eG g) : px_push eL d none (.getfield i) 12 27 lv (pvR 196 :: r) g = some (pvR 212 :: r) := pget heo_196 (gI_r (r := 212) hG heo_196 (Nat.le_of_ble_eq_true rfl) (y := 27) rfl hch_196_27)
theorem hez_151 : eL[151]? = some (1, 60) := by decide +kernel
theorem hez_153 : eL[153]? = some (1, 60) := by decide +kernel
theorem hez_212 : eL[212]? = some (1, 60) := by decide +kernel
theorem sq150_run {d : Nat} {g : pH} {m : Int} {c : tC} (hS : sE yi150k yi150a 0 g g [m] [c]) (hm : 0 ≤ m ∧ m ≤ 60) {k : Int} (hk : -2147483648 ≤ k ∧ k ≤ 2147483647) {P : Option pv × pH → Prop} (h1 : 0 ≤ k ∧ k < m → P (some (oI (c k.toNat)), g)) (h0 : ¬ (0 ≤ k ∧ k < m) → P (some (oI (-1)), g)) {lv : List (Nat × pv)} (l0 : px_lg lv 0 = some (pvR 150)) (l1 : px_lg lv 1 = some (oI k)) : t_X d 98 0 lv [] g P := by
  refine t_0 ysl150_0 rfl (ld_i l1) ?_
  refine tz_lt ysl150_1 (by decide) ⟨by omega, by omega⟩ (fun c1 => ?_) (fun c1 => ?_)
  · show t_X d 98 27 lv [] g P
    refine t_0 ysl150_27 rfl rfl ?_
    refine t_5 ysl150_28 rfl rfl ?_
    exact h0 (by omega)
  · show t_X d 98 4 lv [] g P
    refine t_0 ysl150_4 rfl (ld_i l1) ?_
    refine t_0 ysl150_5 rfl (ld_a l0) ?_
    refine t_0 ysl150_6 rfl (pq_cv heo_150 rfl (show cF g 150 1 = m from S_f hS 0 (Nat.le_of_ble_eq_true rfl))) ?_
    show t_X d 98 9 lv [oI (m), oI (k)] g P
    refine tb_ge ysl150_9 (by decide) ⟨by omega, by omega⟩ ⟨by omega, by omega⟩ (fun c2 => ?_) (fun c2 => ?_)
    · show t_X d 98 27 lv [] g P
      refine t_0 ysl150_27 rfl rfl ?_
      refine t_5 ysl150_28 rfl rfl ?_
      exact h0 (by omega)
    · show t_X d 98 12 lv [] g P
      refine t_0 ysl150_12 rfl (ld_i l1) ?_
      refine t_0 ysl150_13 rfl (pq_b (by decide)) ?_
      refine tb_ge ysl150_15 (by decide) ⟨by omega, by omega⟩ ⟨by omega, by omega⟩ (fun c3 => ?_) (fun c3 => ?_)
      · show t_X d 98 27 lv [] g P
        refine t_0 ysl150_27 rfl rfl ?_
        refine t_5 ysl150_28 rfl rfl ?_
        exact h0 (by omega)
      · show t_X d 98 18 lv [] g P
        refine t_0 ysl150_18 rfl (ld_a l0) ?_
        refine t_0 ysl150_19 rfl (hcq_150_0 (S_J hS).1) ?_
        show t_X d 98 22 lv [pvR 151] g P
        refine t_0 ysl150_22 rfl (ld_i l1) ?_
        have r4 := pb_a (S_J hS).1 hez_151 (j := k.toNat) (by omega) hgu_151 (show fA g 151 = c from S_a hS 0 (Nat.le_of_ble_eq_true rfl))
        refine t_0 ysl150_23 rfl (pq_iv hez_151 rfl ⟨by omega, by omega⟩ (show fA g 151 = c from S_a hS 0 (Nat.le_of_ble_eq_true rfl))) ?_
        show t_X d 98 24 lv [oI (c k.toNat)] g P
        refine t_1 ysl150_24 rfl (pb_goto (pc := 24) (by decide)) ?_
        show t_X d 98 28 lv [oI (c k.toNat)] g P
        refine t_5 ysl150_28 rfl rfl ?_
        exact h1 (by omega)
theorem ci150_run {d : Nat} (hd : 1 ≤ d) {g : pH} {m : Int} {c : tC} (hT0 : g.2.2.1 0 5 = some 150 ∧ True) (hS : sE yi150k yi150a 0 g g [m] [c]) (hm : 0 ≤ m ∧ m ≤ 60) {k : Int} (hk : -2147483648 ≤ k ∧ k ≤ 2147483647) {P : Option pv × pH → Prop} (h1 : 0 ≤ k ∧ k < m → P (some (oI (c k.toNat)), g)) (h0 : ¬ (0 ≤ k ∧ k < m) → P (some (oI (-1)), g)) {lv : List (Nat × pv)} (l0 : px_lg lv 0 = some (pvR 0)) (l1 : px_lg lv 1 = some (oI k)) : t_X d 122 0 lv [] g P := by
  refine t_0 yit_0 rfl (ld_a l0) ?_
  refine t_0 yit_1 rfl (pq_ro heo_0 rfl hT0.1) ?_
  show t_X d 122 4 lv [pvR 150] g P
  refine t_0 yit_4 rfl (ld_i l1) ?_
  refine t_3 yit_5 rfl (ar := ([pvR 150, oI (k)], [])) (pcal_w (as := [oI (k)]) rfl rfl rfl heo_150) ⟨by omega, Nat.le_of_ble_eq_true rfl, Nat.le_of_ble_eq_true rfl, rfl⟩ ?_
  refine sq150_run hS hm hk (fun t1 => ?_) (fun t1 => ?_) rfl rfl
  · show t_X d 122 8 lv [oI (c k.toNat)] g P
    refine t_5 yit_8 rfl rfl ?_
    exact h1 t1
  · show t_X d 122 8 lv [oI (-1)] g P
    refine t_5 yit_8 rfl rfl ?_
    exact h0 t1
theorem sq152_run {d : Nat} {g : pH} {m : Int} {c : tC} (hS : sE yi152k yi152a 0 g g [m] [c]) (hm : 0 ≤ m ∧ m ≤ 60) {k : Int} (hk : -2147483648 ≤ k ∧ k ≤ 2147483647) {P : Option pv × pH → Prop} (h1 : 0 ≤ k ∧ k < m → P (some (oI (c k.toNat)), g)) (h0 : ¬ (0 ≤ k ∧ k < m) → P (some (oI (-1)), g)) {lv : List (Nat × pv)} (l0 : px_lg lv 0 = some (pvR 152)) (l1 : px_lg lv 1 = some (oI k)) : t_X d 98 0 lv [] g P := by
  refine t_0 ysl152_0 rfl (ld_i l1) ?_
  refine tz_lt ysl152_1 (by decide) ⟨by omega, by omega⟩ (fun c1 => ?_) (fun c1 => ?_)
  · show t_X d 98 27 lv [] g P
    refine t_0 ysl152_27 rfl rfl ?_
    refine t_5 ysl152_28 rfl rfl ?_
    exact h0 (by omega)
  · show t_X d 98 4 lv [] g P
    refine t_0 ysl152_4 rfl (ld_i l1) ?_
    refine t_0 ysl152_5 rfl (ld_a l0) ?_
    refine t_0 ysl152_6 rfl (pq_cv heo_152 rfl (show cF g 152 1 = m from S_f hS 0 (Nat.le_of_ble_eq_true rfl))) ?_
    show t_X d 98 9 lv [oI (m), oI (k)] g P
    refine tb_ge ysl152_9 (by decide) ⟨by omega, by omega⟩ ⟨by omega, by omega⟩ (fun c2 => ?_) (fun c2 => ?_)
    · show t_X d 98 27 lv [] g P
      refine t_0 ysl152_27 rfl rfl ?_
      refine t_5 ysl152_28 rfl rfl ?_
      exact h0 (by omega)
    · show t_X d 98 12 lv [] g P
      refine t_0 ysl152_12 rfl (ld_i l1) ?_
      refine t_0 ysl152_13 rfl (pq_b (by decide)) ?_
      refine tb_ge ysl152_15 (by decide) ⟨by omega, by omega⟩ ⟨by omega, by omega⟩ (fun c3 => ?_) (fun c3 => ?_)
      · show t_X d 98 27 lv [] g P
        refine t_0 ysl152_27 rfl rfl ?_
        refine t_5 ysl152_28 rfl rfl ?_
        exact h0 (by omega)
      · show t_X d 98 18 lv [] g P
        refine t_0 ysl152_18 rfl (ld_a l0) ?_
        refine t_0 ysl152_19 rfl (hcq_152_0 (S_J hS).1) ?_
        show t_X d 98 22 lv [pvR 153] g P
        refine t_0 ysl152_22 rfl (ld_i l1) ?_
        have r4 := pb_a (S_J hS).1 hez_153 (j := k.toNat) (by omega) hgu_153 (show fA g 153 = c from S_a hS 0 (Nat.le_of_ble_eq_true rfl))
        refine t_0 ysl152_23 rfl (pq_iv hez_153 rfl ⟨by omega, by omega⟩ (show fA g 153 = c from S_a hS 0 (Nat.le_of_ble_eq_true rfl))) ?_
        show t_X d 98 24 lv [oI (c k.toNat)] g P
        refine t_1 ysl152_24 rfl (pb_goto (pc := 24) (by decide)) ?_
        show t_X d 98 28 lv [oI (c k.toNat)] g P
        refine t_5 ysl152_28 rfl rfl ?_
        exact h1 (by omega)
theorem ci152_run {d : Nat} (hd : 1 ≤ d) {g : pH} {m : Int} {c : tC} (hT0 : g.2.2.1 0 5 = some 152 ∧ True) (hS : sE yi152k yi152a 0 g g [m] [c]) (hm : 0 ≤ m ∧ m ≤ 60) {k : Int} (hk : -2147483648 ≤ k ∧ k ≤ 2147483647) {P : Option pv × pH → Prop} (h1 : 0 ≤ k ∧ k < m → P (some (oI (c k.toNat)), g)) (h0 : ¬ (0 ≤ k ∧ k < m) → P (some (oI (-1)), g)) {lv : List (Nat × pv)} (l0 : px_lg lv 0 = some (pvR 0)) (l1 : px_lg lv 1 = some (oI k)) : t_X d 122 0 lv [] g P := by
  refine t_0 yit_0 rfl (ld_a l0) ?_
  refine t_0 yit_1 rfl (pq_ro heo_0 rfl hT0.1) ?_
  show t_X d 122 4 lv [pvR 152] g P
  refine t_0 yit_4 rfl (ld_i l1) ?_
  refine t_3 yit_5 rfl (ar := ([pvR 152, oI (k)], [])) (pcal_w (as := [oI (k)]) rfl rfl rfl heo_152) ⟨by omega, Nat.le_of_ble_eq_true rfl, Nat.le_of_ble_eq_true rfl, rfl⟩ ?_
  refine sq152_run hS hm hk (fun t1 => ?_) (fun t1 => ?_) rfl rfl
  · show t_X d 122 8 lv [oI (c k.toNat)] g P
    refine t_5 yit_8 rfl rfl ?_
    exact h1 t1
  · show t_X d 122 8 lv [oI (-1)] g P
    refine t_5 yit_8 rfl rfl ?_
    exact h0 t1
theorem mi_run {d : Nat} {g : pH} {m : Int} {c : tC} (hS : sE ymk yma 0 g g [m] [c]) (hm : 0 ≤ m ∧ m ≤ 60) {k : Int} (hk : -2147483648 ≤ k ∧ k ≤ 2147483647) {P : Option pv × pH → Prop} (h1 : 0 ≤ k ∧ k < m → P (some (oI (c k.toNat)), g)) (h0 : ¬ (0 ≤ k ∧ k < m) → P (some (oI (-1)), g)) {lv : List (Nat × pv)} (l0 : px_lg lv 0 = some (pvR 196)) (l1 : px_lg lv 1 = some (oI k)) : t_X d 200 0 lv [] g P := by
  refine t_0 yim_0 rfl (ld_i l1) ?_
  refine tz_lt yim_1 (by decide) ⟨by omega, by omega⟩ (fun c1 => ?_) (fun c1 => ?_)
  · show t_X d 200 21 lv [] g P
    refine t_0 yim_21 rfl rfl ?_
    refine t_5 yim_22 rfl rfl ?_
    exact h0 (by omega)
  · show t_X d 200 4 lv [] g P
    refine t_0 yim_4 rfl (ld_i l1) ?_
    refine t_0 yim_5 rfl (ld_a l0) ?_
    refine t_0 yim_6 rfl (pq_cv heo_196 rfl (show cF g 196 24 = m from S_f hS 0 (Nat.le_of_ble_eq_true rfl))) ?_
    show t_X d 200 9 lv [oI (m), oI (k)] g P
    refine tb_ge yim_9 (by decide) ⟨by omega, by omega⟩ ⟨by omega, by omega⟩ (fun c2 => ?_) (fun c2 => ?_)
    · show t_X d 200 21 lv [] g P
      refine t_0 yim_21 rfl rfl ?_
      refine t_5 yim_22 rfl rfl ?_
      exact h0 (by omega)
    · show t_X d 200 12 lv [] g P
      refine t_0 yim_12 rfl (ld_a l0) ?_
      refine t_0 yim_13 rfl (hcq_196_27 (S_J hS).1) ?_
      show t_X d 200 16 lv [pvR 212] g P
      refine t_0 yim_16 rfl (ld_i l1) ?_
      have r3 := pb_a (S_J hS).1 hez_212 (j := k.toNat) (by omega) hgu_212 (show fA g 212 = c from S_a hS 0 (Nat.le_of_ble_eq_true rfl))
      refine t_0 yim_17 rfl (pq_iv hez_212 rfl ⟨by omega, by omega⟩ (show fA g 212 = c from S_a hS 0 (Nat.le_of_ble_eq_true rfl))) ?_
      show t_X d 200 18 lv [oI (c k.toNat)] g P
      refine t_1 yim_18 rfl (pb_goto (pc := 18) (by decide)) ?_
      show t_X d 200 22 lv [oI (c k.toNat)] g P
      refine t_5 yim_22 rfl rfl ?_
      exact h1 (by omega)
theorem hgy_196_24' : eG (cn 196 + 24) = (0, 60, []) := by decide +kernel
theorem pi_150 {g : pH} (hG : g_I eG g) (hx : xL g) (hT0 : rT g 150 152 151) (x1 : Int32) : pr_ RT 122 200 [.inl x1] 0 true g := by
  have hm := cb_i hG heo_196 (Nat.le_of_ble_eq_true rfl) rfl hgy_196_24'
  have hS1 : sE yi150k yi150a 0 g g [cF g 150 1] [fA g 151] := S_0 hG
  have hS2 : sE ymk yma 0 g g [cF g 196 24] [fA g 212] := S_0 hG
  obtain ⟨e1, e2, e3, e4⟩ := hT0
  have hR : RT g := Or.inl ⟨e1, e2, e3, e4⟩
  rw [e3] at hS1
  unfold pr_
  refine ci150_run (k := x1.toInt) (by decide) ⟨e1, trivial⟩ hS1 hm (i32_b x1) (fun h => ?_) (fun h => ?_) rfl (congrArg some (oI_r x1))
  · refine ⟨_, rfl, rfl, mi_run (k := x1.toInt) hS2 hm (i32_b x1) (fun h2 => ?_) (fun h2 => absurd h h2) rfl (congrArg some (oI_r x1))⟩
    exact ⟨_, rfl, rfl, hG, hx, hR, fun _ => by rw [e4 x1.toInt.toNat (by omega)]⟩
  · refine ⟨_, rfl, rfl, mi_run (k := x1.toInt) hS2 hm (i32_b x1) (fun h2 => absurd h2 h) (fun h2 => ?_) rfl (congrArg some (oI_r x1))⟩
    exact ⟨_, rfl, rfl, hG, hx, hR, fun _ => rfl⟩
theorem pi_152 {g : pH} (hG : g_I eG g) (hx : xL g) (hT0 : rT g 152 150 153) (x1 : Int32) : pr_ RT 122 200 [.inl x1] 0 true g := by
  have hm := cb_i hG heo_196 (Nat.le_of_ble_eq_true rfl) rfl hgy_196_24'
  have hS1 : sE yi152k yi152a 0 g g [cF g 152 1] [fA g 153] := S_0 hG
  have hS2 : sE ymk yma 0 g g [cF g 196 24] [fA g 212] := S_0 hG
  obtain ⟨e1, e2, e3, e4⟩ := hT0
  have hR : RT g := Or.inr ⟨e1, e2, e3, e4⟩
  rw [e3] at hS1
  unfold pr_
  refine ci152_run (k := x1.toInt) (by decide) ⟨e1, trivial⟩ hS1 hm (i32_b x1) (fun h => ?_) (fun h => ?_) rfl (congrArg some (oI_r x1))
  · refine ⟨_, rfl, rfl, mi_run (k := x1.toInt) hS2 hm (i32_b x1) (fun h2 => ?_) (fun h2 => absurd h h2) rfl (congrArg some (oI_r x1))⟩
    exact ⟨_, rfl, rfl, hG, hx, hR, fun _ => by rw [e4 x1.toInt.toNat (by omega)]⟩
  · refine ⟨_, rfl, rfl, mi_run (k := x1.toInt) hS2 hm (i32_b x1) (fun h2 => absurd h2 h) (fun h2 => ?_) rfl (congrArg some (oI_r x1))⟩
    exact ⟨_, rfl, rfl, hG, hx, hR, fun _ => rfl⟩
theorem pw14_inTray {g : pH} (hG : g_I eG g) (hx : xL g) (hR : R0 g) (hT : RT g) (x1 : Int32) : pr_ RT 122 200 [.inl x1] 0 true g := by
  rcases hT with h | h
  · exact pi_150 hG hx h x1
  · exact pi_152 hG hx h x1
theorem ph_feed {g : pH} (hG : g_I eG g) (hx : xL g) (hR : RH g) (x1 x2 x3 x4 x5 : Int32) : pr_ RH 119 189 [.inl x1, .inl x2, .inl x3, .inl x4, .inl x5] 0 true g := by
  have h := pr_an2 (q := true) (q' := false) (pr_feed hG hx hR.1 x1 x2 x3 x4 x5) (pw14_feed hG hx hR.1 hR.2 x1 x2 x3 x4 x5)
  exact h
theorem ph_slide {g : pH} (hG : g_I eG g) (hx : xL g) (hR : RH g) (x1 x2 x3 x4 : Int32) : pr_ RH 147 251 [.inl x1, .inl x2, .inl x3, .inl x4] 0 true g := by
  have h := pr_an2 (q := true) (q' := false) (pr_slide hG hx hR.1 x1 x2 x3 x4) (pw14_slide hG hx hR.1 hR.2 x1 x2 x3 x4)
  exact h
theorem ph_put {g : pH} (hG : g_I eG g) (hx : xL g) (hR : RH g) (x1 x2 : Int32) : pr_ RH 139 231 [.inl x1, .inl x2] 0 true g := by
  have h := pr_an2 (q := true) (q' := false) (pr_put hG hx hR.1 x1 x2) (pw14_put hG hx hR.1 hR.2 x1 x2)
  exact h
theorem ph_day {g : pH} (hG : g_I eG g) (hx : xL g) (hR : RH g) (x1 x2 : Int32) : pr_ RH 116 183 [.inl x1, .inl x2] 0 true g := by
  have h := pr_an2 (q := true) (q' := false) (pr_day hG hx hR.1 x1 x2) (pw14_day hG hx hR.1 hR.2 x1 x2)
  exact h
theorem ph_gone {g : pH} (hG : g_I eG g) (hx : xL g) (hR : RH g) (x1 : Int32) : pr_ RH 120 194 [.inl x1] 0 true g := by
  have h := pr_an2 (q := true) (q' := false) (pr_gone hG hx hR.1 x1) (pw14_gone hG hx hR.1 hR.2 x1)
  exact h
theorem ph_looker {g : pH} (hG : g_I eG g) (hx : xL g) (hR : RH g) (x1 x2 x3 : Int32) : pr_ RH 134 221 [.inl x1, .inl x2, .inl x3] 0 false g := by
  have h := pr_an2 (q := false) (q' := false) (pr_looker hG hx hR.1 x1 x2 x3) (pw14_looker hG hx hR.1 hR.2 x1 x2 x3)
  exact h
theorem ph_lamps {g : pH} (hG : g_I eG g) (hx : xL g) (hR : RH g) (x1 : Int32) : pr_ RH 128 211 [.inl x1] 0 false g := by
  have h := pr_an2 (q := false) (q' := false) (pr_lamps hG hx hR.1 x1) (pw14_lamps hG hx hR.1 hR.2 x1)
  exact h
theorem ph_tray {g : pH} (hG : g_I eG g) (hx : xL g) (hR : RH g) (x1 : Int32) : pr_ RH 157 264 [.inl x1] 0 true g := by
  have h := pr_an2 (q := false) (q' := true) (pr_tray hG hx hR.1 x1) (pw14_tray hG hx hR.1 hR.2 x1)
  exact h
theorem ph_law {g : pH} (hG : g_I eG g) (hx : xL g) (hR : RH g) (x1 : Int32) : pr_ RH 129 213 [.inl x1] 0 false g := by
  have h := pr_an2 (q := false) (q' := false) (pr_law hG hx hR.1 x1) (pw14_law hG hx hR.1 hR.2 x1)
  exact h
theorem ph_ways {g : pH} (hG : g_I eG g) (hx : xL g) (hR : RH g) (x1 x2 x3 : Int32) : pr_ RH 164 273 [.inl x1, .inl x2, .inl x3] 0 false g := by
  have h := pr_an2 (q := false) (q' := false) (pr_ways hG hx hR.1 x1 x2 x3) (pw14_ways hG hx hR.1 hR.2 x1 x2 x3)
  exact h
theorem ph_shown {g : pH} (hG : g_I eG g) (hx : xL g) (hR : RH g) (x1 x2 x3 : Int32) : pr_ RH 146 247 [.inl x1, .inl x2, .inl x3] 0 false g := by
  have h := pr_an2 (q := false) (q' := false) (pr_shown hG hx hR.1 x1 x2 x3) (pw14_shown hG hx hR.1 hR.2 x1 x2 x3)
  exact h
theorem ph_slideIs {g : pH} (hG : g_I eG g) (hx : xL g) (hR : RH g) (x1 x2 : Int32) : pr_ RH 148 252 [.inl x1, .inl x2] 0 false g := by
  have h := pr_an2 (q := false) (q' := false) (pr_slideIs hG hx hR.1 x1 x2) (pw14_slideIs hG hx hR.1 hR.2 x1 x2)
  exact h
theorem ph_inTray {g : pH} (hG : g_I eG g) (hx : xL g) (hR : RH g) (x1 : Int32) : pr_ RH 122 200 [.inl x1] 0 true g := by
  have h := pr_an2 (q := false) (q' := true) (pr_inTray hG hx hR.1 x1) (pw14_inTray hG hx hR.1 hR.2 x1)
  exact h
theorem ph_evening {g : pH} (hG : g_I eG g) (hx : xL g) (hR : RH g) : pr_ RH 118 187 [] 0 false g := by
  have h := pr_an2 (q := false) (q' := false) (pr_evening hG hx hR.1) (pw14_evening hG hx hR.1 hR.2)
  exact h
theorem ph_tried {g : pH} (hG : g_I eG g) (hx : xL g) (hR : RH g) (x1 : Int32) : pr_ RH 158 265 [.inl x1] 0 false g := by
  have h := pr_an2 (q := false) (q' := false) (pr_tried hG hx hR.1 x1) (pw14_tried hG hx hR.1 hR.2 x1)
  exact h
theorem ph_odds {g : pH} (hG : g_I eG g) (hx : xL g) (hR : RH g) (x1 x2 x3 x4 : Int32) : pr_ RH 137 228 [.inl x1, .inl x2, .inl x3, .inl x4] 0 false g := by
  have h := pr_an2 (q := false) (q' := false) (pr_odds hG hx hR.1 x1 x2 x3 x4) (pw14_odds hG hx hR.1 hR.2 x1 x2 x3 x4)
  exact h
theorem ph_toTurn {g : pH} (hG : g_I eG g) (hx : xL g) (hR : RH g) (x1 x2 : Int32) : pr_ RH 156 263 [.inl x1, .inl x2] 1 false g := by
  have h := pr_an2 (q := false) (q' := false) (pr_toTurn hG hx hR.1 x1 x2) (pw14_toTurn hG hx hR.1 hR.2 x1 x2)
  exact h
theorem ph_leave {g : pH} (hG : g_I eG g) (hx : xL g) (hR : RH g) (x1 x2 : Int32) : pr_ RH 130 217 [.inl x1, .inl x2] 1 false g := by
  have h := pr_an2 (q := false) (q' := false) (pr_leave hG hx hR.1 x1 x2) (pw14_leave hG hx hR.1 hR.2 x1 x2)
  exact h
theorem ph_sure {g : pH} (hG : g_I eG g) (hx : xL g) (hR : RH g) (x1 x2 : Int32) : pr_ RH 150 258 [.inl x1, .inl x2] 0 true g := by
  have h := pr_an2 (q := true) (q' := false) (pr_sure hG hx hR.1 x1 x2) (pw14_sure hG hx hR.1 hR.2 x1 x2)
  exact h
theorem ph_dots {g : pH} (hG : g_I eG g) (hx : xL g) (hR : RH g) (x1 x2 : Int32) : pr_ RH 117 184 [.inl x1, .inl x2] 0 false g := by
  have h := pr_an2 (q := false) (q' := false) (pr_dots hG hx hR.1 x1 x2) (pw14_dots hG hx hR.1 hR.2 x1 x2)
  exact h
theorem ph_lightBox {g : pH} (hG : g_I eG g) (hx : xL g) (hR : RH g) (x1 x2 : Int32) : pr_ RH 132 219 [.inl x1, .inl x2] 1 false g := by
  have h := pr_an2 (q := false) (q' := false) (pr_lightBox hG hx hR.1 x1 x2) (pw14_lightBox hG hx hR.1 hR.2 x1 x2)
  exact h
theorem ph_clue {g : pH} (hG : g_I eG g) (hx : xL g) (hR : RH g) (x1 x2 : Int32) : pr_ RH 111 177 [.inl x1, .inl x2] 0 false g := by
  have h := pr_an2 (q := false) (q' := false) (pr_clue hG hx hR.1 x1 x2) (pw14_clue hG hx hR.1 hR.2 x1 x2)
  exact h
theorem ph_spilt {g : pH} (hG : g_I eG g) (hx : xL g) (hR : RH g) (x1 x2 : Int32) : pr_ RH 149 254 [.inl x1, .inl x2] 1 false g := by
  have h := pr_an2 (q := false) (q' := false) (pr_spilt hG hx hR.1 x1 x2) (pw14_spilt hG hx hR.1 hR.2 x1 x2)
  exact h
theorem ph_says {g : pH} (hG : g_I eG g) (hx : xL g) (hR : RH g) (x1 x2 x3 x4 : Int32) : pr_ RH 142 243 [.inl x1, .inl x2, .inl x3, .inl x4] 1 false g := by
  have h := pr_an2 (q := false) (q' := false) (pr_says hG hx hR.1 x1 x2 x3 x4) (pw14_says hG hx hR.1 hR.2 x1 x2 x3 x4)
  exact h
theorem ph_shadow {g : pH} (hG : g_I eG g) (hx : xL g) (hR : RH g) (x1 x2 x3 : Int32) : pr_ RH 145 246 [.inl x1, .inl x2, .inl x3] 0 false g := by
  have h := pr_an2 (q := false) (q' := false) (pr_shadow hG hx hR.1 x1 x2 x3) (pw14_shadow hG hx hR.1 hR.2 x1 x2 x3)
  exact h
theorem ph_link {g : pH} (hG : g_I eG g) (hx : xL g) (hR : RH g) (x1 x2 : Int32) : pr_ RH 133 220 [.inl x1, .inl x2] 0 false g := by
  have h := pr_an2 (q := false) (q' := false) (pr_link hG hx hR.1 x1 x2) (pw14_link hG hx hR.1 hR.2 x1 x2)
  exact h
theorem ph_leftOut {g : pH} (hG : g_I eG g) (hx : xL g) (hR : RH g) (x1 x2 : Int32) : pr_ RH 131 218 [.inl x1, .inl x2] 0 false g := by
  have h := pr_an2 (q := false) (q' := false) (pr_leftOut hG hx hR.1 x1 x2) (pw14_leftOut hG hx hR.1 hR.2 x1 x2)
  exact h
theorem ph_lamp {g : pH} (hG : g_I eG g) (hx : xL g) (hR : RH g) (x1 x2 x3 : Int32) : pr_ RH 127 210 [.inl x1, .inl x2, .inl x3] 1 false g := by
  have h := pr_an2 (q := false) (q' := false) (pr_lamp hG hx hR.1 x1 x2 x3) (pw14_lamp hG hx hR.1 hR.2 x1 x2 x3)
  exact h
theorem ph_hand {g : pH} (hG : g_I eG g) (hx : xL g) (hR : RH g) (x1 : Int32) : pr_ RH 121 195 [.inl x1] 1 false g := by
  have h := pr_an2 (q := false) (q' := false) (pr_hand hG hx hR.1 x1) (pw14_hand hG hx hR.1 hR.2 x1)
  exact h
theorem ph_putIn {g : pH} (hG : g_I eG g) (hx : xL g) (hR : RH g) : pr_ RH 140 232 [] 0 false g := by
  have h := pr_an2 (q := false) (q' := false) (pr_putIn hG hx hR.1) (pw14_putIn hG hx hR.1 hR.2)
  exact h
theorem ph_seed {g : pH} (hG : g_I eG g) (hx : xL g) (hR : RH g) (x1 : Int32) : pr_ RH 144 245 [.inl x1] 0 false g := by
  have h := pr_an2 (q := false) (q' := false) (pr_seed hG hx hR.1 x1) (pw14_seed hG hx hR.1 hR.2 x1)
  exact h
theorem ph_keep {g : pH} (hG : g_I eG g) (hx : xL g) (hR : RH g) : pr_ RH 126 209 [] 0 true g := by
  have h := pr_an2 (q := true) (q' := false) (pr_keep hG hx hR.1) (pw14_keep hG hx hR.1 hR.2)
  exact h
theorem ph_undo {g : pH} (hG : g_I eG g) (hx : xL g) (hR : RH g) : pr_ RH 160 270 [] 0 true g := by
  have h := pr_an2 (q := true) (q' := false) (pr_undo hG hx hR.1) (pw14_undo hG hx hR.1 hR.2)
  exact h
theorem ph_check {g : pH} (hG : g_I eG g) (hx : xL g) (hR : RH g) (x1 x2 : Int32) : pr_ RH 110 174 [.inl x1, .inl x2] 0 false g := by
  have h := pr_an2 (q := false) (q' := false) (pr_check hG hx hR.1 x1 x2) (pw14_check hG hx hR.1 hR.2 x1 x2)
  exact h
theorem ph_count {g : pH} (hG : g_I eG g) (hx : xL g) (hR : RH g) (x1 : Int32) : pr_ RH 115 182 [.inl x1] 0 false g := by
  have h := pr_an2 (q := false) (q' := false) (pr_count hG hx hR.1 x1) (pw14_count hG hx hR.1 hR.2 x1)
  exact h
