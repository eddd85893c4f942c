/-! the tie: feed, slide, gone, keep, undo, as pairs (printed by wip/e2/t10.py) -/
/-- the cells of each thing that both sides know -/
def mS : Nat := 80695308690215893426747474125094121072803306025913234775958104891895238188026287332176417290004307232371974124152553472
def mT : Nat := 638668899051110339730039268171788341141584403339346413280815117579907805398068501051186548957643424348589582990141598478071180156285949971436534975451146054502401815344347416485612070862196155898449074158254055677865859345638678524444433685903374130402278690200241933325554718473710083176931328
def mN : Nat := 31488807865122869393368946606905258090427358510263056881902260126273268613620094029570654385546278232018613516882486860685488436192434164121779142526563531152528373449768351504896388927068416358529102272623214362421327389984361490675440337244530332776732521660416
def mK : Nat := 446105072543334918839418749444970168039378060497818337716731560687985187638036182684858509320571249526240329861708360427518264246140311834295312913755879678887103566502462125830953585215562544841041753667943651082860234292253505700128573641866339385607461716596262464466483406583103504
theorem mS_b : mS.testBit (cn 3) = true ∧ mS.testBit (cn 77) = true := by decide +kernel
theorem mT_b : mT.testBit (cn 1) = true ∧ mT.testBit (cn 211) = true := by decide +kernel
theorem mN_b : mN.testBit (cn 196 + 0) = true ∧ ∀ j, j < 32 → mN.testBit (cn (4 + 2 * j) + 2) = true := by decide +kernel
theorem mK_b : mK.testBit (cn 196 + 73) = true ∧ mK.testBit (cn 0 + 4) = true ∧ mK.testBit (cn 196 + 72) = true ∧ ∀ j, j < 32 → mK.testBit (cn (78 + 2 * j) + 2) = true := by decide +kernel
section FR
variable {W : Nat} {g g1 : pH}
theorem fr_S (hM : f_M W g g1) (hW : W &&& mS = 0) (h : rS g) : rS g1 := rS_M hM ⟨mx_f hW mS_b.1, mx_f hW mS_b.2⟩ h
theorem fr_T (hM : f_M W g g1) (hW : W &&& mT = 0) (h : tpR (fA g 1) (fA g 211)) : tpR (fA g1 1) (fA g1 211) := by
  rw [fA_M hM (mx_f hW mT_b.1), fA_M hM (mx_f hW mT_b.2)]
  exact h
theorem fr_N (hM : f_M W g g1) (hW : W &&& mN = 0) (h : rN g) : rN g1 := fun j hj => by
  rw [cF_M hM (mx_f hW (mN_b.2 j hj))]
  unfold bM
  rw [(hM.1 196 0 (mx_f hW mN_b.1)).1]
  exact h j hj
theorem fr_K (hM : f_M W g g1) (hW : W &&& mK = 0) (h : rK g) : rK g1 := by
  refine ⟨fun j hj => ?_, ?_⟩
  · rw [cF_M hM (mx_f hW (mK_b.2.2.2 j hj)), (hM.1 196 73 (mx_f hW mK_b.1)).1]
    exact h.1 j hj
  · rw [cF_M hM (mx_f hW mK_b.2.1), cF_M hM (mx_f hW mK_b.2.2.1)]
    exact h.2
theorem fr_n (hM : f_M W g g1) {m : Nat} (hW : W &&& 2 ^ m = 0) : W.testBit m = false := mx_f hW Nat.testBit_two_pow_self
end FR
theorem mi_0 : kk_0.2.2.2.1 &&& mS = 0 := by decide +kernel
theorem mi_1 : kk_0.2.2.2.1 &&& mN = 0 := by decide +kernel
theorem mi_2 : kk_0.2.2.2.1 &&& mK = 0 := by decide +kernel
theorem mi_3 : kk_1.2.2.2.1 &&& mS = 0 := by decide +kernel
theorem mi_4 : kk_1.2.2.2.1 &&& mN = 0 := by decide +kernel
theorem mi_5 : kk_1.2.2.2.1 &&& mK = 0 := by decide +kernel
theorem mi_6 : kk_0.2.2.2.1 &&& 2 ^ (cn 196 + 17) = 0 := by decide +kernel
theorem mi_7 : kk_1.2.2.2.1 &&& 2 ^ (cn 0 + 1) = 0 := by decide +kernel
theorem mi_8 : kk_0.2.2.2.1 &&& 2 ^ (cn 211) = 0 := by decide +kernel
theorem mi_9 : kk_1.2.2.2.1 &&& 2 ^ (cn 1) = 0 := by decide +kernel
theorem Wfe : kk_0.2.2.2.1.testBit (cn 1) = true ∧ kk_0.2.2.2.1.testBit (cn 0 + 1) = true ∧ kk_1.2.2.2.1.testBit (cn 211) = true ∧ kk_1.2.2.2.1.testBit (cn 196 + 17) = true ∧ kk_0.2.2.2.1 &&& eDX = 0 ∧ kk_1.2.2.2.1 &&& eDX = 0 := by decide +kernel
theorem pr_feed {g : pH} (hG : g_I eG g) (hx : xL g) (hR : R0 g) (x1 x2 x3 x4 x5 : Int32) : pr_ R0 119 189 [.inl x1, .inl x2, .inl x3, .inl x4, .inl x5] 0 true g := by
  unfold pr_
  have hl : cF g 0 1 = fF g 17 := hR.2
  obtain ⟨q1, q2, q3, q4⟩ := hR.1
  refine fc_run (by decide) Wfe.1 Wfe.2.1 (J_rf hG) (fun z1 => ?_) (fun g1 J1 z1 t1 f1 => ?_) rfl rfl rfl rfl rfl rfl
  · refine ⟨_, rfl, rfl, fm_run (by decide) Wfe.2.2.1 Wfe.2.2.2.1 (J_rf hG) (fun z2 => ?_) (fun g2 J2 z2 t2 f2 => ?_) rfl rfl rfl rfl rfl rfl⟩
    · exact ⟨_, rfl, rfl, hG, hx, hR, fun _ => rfl⟩
    · exfalso; omega
  · have k1 : fF g1 17 = fF g 17 := fF_M J1.2 (fr_n J1.2 mi_6)
    have X1 := xL_K _ _ _ J1.2 Wfe.2.2.2.2.1 hx
    refine ⟨_, rfl, rfl, fm_run (by decide) Wfe.2.2.1 Wfe.2.2.2.1 (J_rf J1.1) (fun z2 => ?_) (fun g2 J2 z2 t2 f2 => ?_) rfl rfl rfl rfl rfl rfl⟩
    · exfalso; omega
    · have k2 : cF g2 0 1 = cF g1 0 1 := cF_M J2.2 (fr_n J2.2 mi_7)
      have k3 : fA g1 211 = fA g 211 := fA_M J1.2 (fr_n J1.2 mi_8)
      have k4 : fA g2 1 = fA g1 1 := fA_M J2.2 (fr_n J2.2 mi_9)
      refine ⟨_, rfl, rfl, J2.1, xL_K _ _ _ J2.2 Wfe.2.2.2.2.2 X1, ⟨⟨fr_S J2.2 mi_3 (fr_S J1.2 mi_0 q1), ?_, fr_N J2.2 mi_4 (fr_N J1.2 mi_1 q3), fr_K J2.2 mi_5 (fr_K J1.2 mi_2 q4)⟩, ?_⟩, fun _ => ?_⟩
      · rw [k4, f1, f2, k3, k1, ← hl]
        exact tp_ap _ (tp_ap _ (tp_ap _ (tp_ap _ (tp_ap _ q2))))
      · rw [k2, t1, hl, ← k1]
        exact t2.symm
      · rw [hl, ← k1]
theorem mi_10 : kk_2.2.2.2.1 &&& mS = 0 := by decide +kernel
theorem mi_11 : kk_2.2.2.2.1 &&& mT = 0 := by decide +kernel
theorem mi_12 : kk_2.2.2.2.1 &&& mK = 0 := by decide +kernel
theorem mi_13 : kk_3.2.2.2.1 &&& mS = 0 := by decide +kernel
theorem mi_14 : kk_3.2.2.2.1 &&& mT = 0 := by decide +kernel
theorem mi_15 : kk_3.2.2.2.1 &&& mK = 0 := by decide +kernel
theorem mi_16 : kk_2.2.2.2.1 &&& 2 ^ (cn 196 + 17) = 0 := by decide +kernel
theorem mi_17 : kk_3.2.2.2.1 &&& 2 ^ (cn 0 + 1) = 0 := by decide +kernel
theorem mi_18 : kk_2.2.2.2.1 &&& 2 ^ (cn 196 + 0) = 0 := by decide +kernel
theorem mi_19 : kk_2.2.2.2.1 &&& 2 ^ (cn 211) = 0 := by decide +kernel
theorem ms_n : ∀ j, j < 32 → kk_3.2.2.2.1.testBit (cn (4 + 2 * j) + 2) = false := by decide +kernel
theorem pic_iff {g g1 : pH} (h : tpR (fA g 1) (fA g 211)) (e : fA g1 211 = fA g 211) : picC g ↔ picM g1 := by
  unfold picC picM
  rw [e]
  constructor
  · intro hp k hk
    have h1 := h k (by omega)
    have h2 := hp k hk
    omega
  · intro hp k hk
    have h1 := h k (by omega)
    have h2 := hp k hk
    omega
theorem pr_slide {g : pH} (hG : g_I eG g) (hx : xL g) (hR : R0 g) (x1 x2 x3 x4 : Int32) : pr_ R0 147 251 [.inl x1, .inl x2, .inl x3, .inl x4] 0 true g := by
  unfold pr_
  have hl : cF g 0 1 = cF g 196 17 := hR.2
  obtain ⟨q1, q2, q3, q4⟩ := hR.1
  refine cs_run (i := x1.toInt) (a := x2.toInt) (b := x3.toInt) (c := x4.toInt) (by decide) (by decide) hG hx q1 (i32_b _) (i32_b _) (i32_b _) (i32_b _) (fun m hm e1 z1 p1 g1 G1 X1 M1 t1 u1 n1 => ?_) (fun z1 p1 g1 G1 X1 M1 t1 u1 => ?_) (fun g1 G1 X1 M1 u1 z1 => ?_) rfl (congrArg some (oI_r x1)) (congrArg some (oI_r x2)) (congrArg some (oI_r x3)) (congrArg some (oI_r x4))
  all_goals
    have k1 : cF g1 196 17 = cF g 196 17 := cF_M M1 (fr_n M1 mi_16)
    have k2 : g1.1 196 0 = g.1 196 0 := (M1.1 196 0 (fr_n M1 mi_18)).1
    have k3 := pic_iff q2 (fA_M M1 (fr_n M1 mi_19))
    refine ⟨_, rfl, rfl, ms_run (i := x1.toInt) (a := x2.toInt) (b := x3.toInt) (c := x4.toInt) (by decide) (by decide) G1 X1 (i32_b _) (i32_b _) (i32_b _) (i32_b _) (fun m' hm' e2 z2 p2 g2 G2 X2 M2 t2 u2 => ?_) (fun z2 p2 g2 G2 X2 M2 t2 u2 => ?_) (fun g2 G2 X2 M2 u2 z2 => ?_) rfl (congrArg some (oI_r x1)) (congrArg some (oI_r x2)) (congrArg some (oI_r x3)) (congrArg some (oI_r x4))⟩
  · obtain rfl : m' = m := by omega
    refine ⟨_, rfl, rfl, G2, X2, ⟨⟨fr_S M2 mi_13 (fr_S M1 mi_10 q1), fr_T M2 mi_14 (fr_T M1 mi_11 q2), fun j hj => ?_, fr_K M2 mi_15 (fr_K M1 mi_12 q4)⟩, ?_⟩, fun _ => rfl⟩
    · rw [cF_M M2 (ms_n j hj)]
      unfold bM
      rw [u2 j hj, k2]
      by_cases hjm : j = m'
      · subst hjm
        simp [u1]
      · rw [n1 j hj hjm]
        simp only [decide_eq_true_eq, Bool.or_eq_true, hjm, or_false]
        exact q3 j hj
    · rw [cF_M M2 (fr_n M2 mi_17), t1, t2]
  · exact absurd (k3.mp p1) p2
  · exfalso; omega
  · exact absurd (k3.mpr p2) p1
  · refine ⟨_, rfl, rfl, G2, X2, ⟨⟨fr_S M2 mi_13 (fr_S M1 mi_10 q1), fr_T M2 mi_14 (fr_T M1 mi_11 q2), fun j hj => ?_, fr_K M2 mi_15 (fr_K M1 mi_12 q4)⟩, ?_⟩, fun _ => rfl⟩
    · rw [cF_M M2 (ms_n j hj), u1 _ _ (by omega)]
      unfold bM
      rw [u2, k2]
      exact q3 j hj
    · rw [cF_M M2 (fr_n M2 mi_17), t1, t2]
  · exfalso; omega
  · exfalso
    have := u1 0 1
    omega
  · exfalso
    have := u1 0 1
    omega
  · refine ⟨_, rfl, rfl, G2, X2, ⟨⟨fr_S M2 mi_13 (fr_S M1 mi_10 q1), fr_T M2 mi_14 (fr_T M1 mi_11 q2), fun j hj => ?_, fr_K M2 mi_15 (fr_K M1 mi_12 q4)⟩, ?_⟩, fun _ => rfl⟩
    · rw [u2, u1]
      unfold bM
      rw [show g2.1 196 0 = g1.1 196 0 from Int32.toInt_inj.mp (u2 196 0), k2]
      exact q3 j hj
    · rw [u2, u2, u1, u1]
      exact hl
theorem mi_20 : kk_8.2.2.2.1 &&& mS = 0 := by decide +kernel
theorem mi_21 : kk_8.2.2.2.1 &&& mT = 0 := by decide +kernel
theorem mi_22 : kk_8.2.2.2.1 &&& mK = 0 := by decide +kernel
theorem mi_23 : kk_9.2.2.2.1 &&& mS = 0 := by decide +kernel
theorem mi_24 : kk_9.2.2.2.1 &&& mT = 0 := by decide +kernel
theorem mi_25 : kk_9.2.2.2.1 &&& mK = 0 := by decide +kernel
theorem mi_26 : kk_8.2.2.2.1 &&& 2 ^ (cn 196 + 17) = 0 := by decide +kernel
theorem mi_27 : kk_9.2.2.2.1 &&& 2 ^ (cn 0 + 1) = 0 := by decide +kernel
theorem mi_28 : kk_8.2.2.2.1 &&& 2 ^ (cn 196 + 0) = 0 := by decide +kernel
theorem mi_29 : kk_8.2.2.2.1 &&& 2 ^ (cn 0 + 1) = 0 := by decide +kernel
theorem mi_30 : kk_9.2.2.2.1 &&& 2 ^ (cn 196 + 17) = 0 := by decide +kernel
theorem mg_n : ∀ j, j < 32 → kk_9.2.2.2.1.testBit (cn (4 + 2 * j) + 2) = false := by decide +kernel
theorem pr_gone {g : pH} (hG : g_I eG g) (hx : xL g) (hR : R0 g) (x1 : Int32) : pr_ R0 120 194 [.inl x1] 0 true g := by
  unfold pr_
  obtain ⟨q1, q2, q3, q4⟩ := hR.1
  refine cgo_run (i := x1.toInt) (by decide) (by decide) hG hx q1 (i32_b _) (fun m hm e1 c1 g1 G1 X1 M1 u1 n1 => ?_) (fun z1 => ?_) rfl (congrArg some (oI_r x1))
  · have k2 : g1.1 196 0 = g.1 196 0 := (M1.1 196 0 (fr_n M1 mi_28)).1
    refine ⟨_, rfl, rfl, mgo_run (i := x1.toInt) (by decide) (by decide) G1 X1 (i32_b _) (fun m' hm' e2 c2 g2 G2 X2 M2 u2 => ?_) (fun z2 => ?_) rfl (congrArg some (oI_r x1))⟩
    · obtain rfl : m' = m := by omega
      refine ⟨_, rfl, rfl, G2, X2, ⟨⟨fr_S M2 mi_23 (fr_S M1 mi_20 q1), fr_T M2 mi_24 (fr_T M1 mi_21 q2), fun j hj => ?_, fr_K M2 mi_25 (fr_K M1 mi_22 q4)⟩, ?_⟩, fun _ => rfl⟩
      · rw [cF_M M2 (mg_n j hj)]
        unfold bM
        rw [u2 j hj, k2]
        by_cases hjm : j = m'
        · subst hjm
          simp [u1]
        · rw [n1 j hj hjm]
          simp only [decide_eq_true_eq, Bool.and_eq_true, Bool.not_eq_true', decide_eq_false_iff_not, hjm, not_false_eq_true, and_true]
          exact q3 j hj
      · rw [cF_M M2 (fr_n M2 mi_27), cF_M M1 (fr_n M1 mi_29), cF_M M2 (fr_n M2 mi_30), cF_M M1 (fr_n M1 mi_26)]
        exact hR.2
    · refine absurd ⟨m, hm, e1, ?_⟩ z2
      unfold bM
      rw [k2]
      exact (q3 m hm).mp c1
  · refine ⟨_, rfl, rfl, mgo_run (i := x1.toInt) (by decide) (by decide) hG hx (i32_b _) (fun m' hm' e2 c2 g2 G2 X2 M2 u2 => ?_) (fun z2 => ?_) rfl (congrArg some (oI_r x1))⟩
    · exact absurd ((to_iff hR.1).mpr ⟨m', hm', e2, c2⟩) z1
    · exact ⟨_, rfl, rfl, hG, hx, hR, fun _ => rfl⟩
theorem mi_31 : kk_57.2.2.2.1 &&& mS = 0 := by decide +kernel
theorem mi_32 : kk_57.2.2.2.1 &&& mT = 0 := by decide +kernel
theorem mi_33 : kk_58.2.2.2.1 &&& mS = 0 := by decide +kernel
theorem mi_34 : kk_58.2.2.2.1 &&& mT = 0 := by decide +kernel
theorem mi_35 : kk_57.2.2.2.1 &&& 2 ^ (cn 196 + 0) = 0 := by decide +kernel
theorem mi_36 : kk_58.2.2.2.1 &&& 2 ^ (cn 0 + 4) = 0 := by decide +kernel
theorem mi_37 : kk_58.2.2.2.1 &&& 2 ^ (cn 0 + 1) = 0 := by decide +kernel
theorem mi_38 : kk_57.2.2.2.1 &&& 2 ^ (cn 0 + 1) = 0 := by decide +kernel
theorem mi_39 : kk_58.2.2.2.1 &&& 2 ^ (cn 196 + 17) = 0 := by decide +kernel
theorem mi_40 : kk_57.2.2.2.1 &&& 2 ^ (cn 196 + 17) = 0 := by decide +kernel
theorem mk_n : ∀ j, j < 32 → kk_58.2.2.2.1.testBit (cn (4 + 2 * j) + 2) = false ∧ kk_58.2.2.2.1.testBit (cn (78 + 2 * j) + 2) = false ∧ kk_60.2.2.2.1.testBit (cn (4 + 2 * j) + 2) = false ∧ kk_60.2.2.2.1.testBit (cn (78 + 2 * j) + 2) = false := by decide +kernel
theorem bz_c {b : Int32} {j : Nat} {x : Int} (hx : 0 ≤ x ∧ x ≤ 1) (h : x = 1 ↔ b.toBitVec.getLsbD j = true) : x = bz b j := by
  unfold bz
  by_cases k : b.toBitVec.getLsbD j = true
  · rw [if_pos k]
    exact h.mpr k
  · rw [if_neg k]
    have : ¬ x = 1 := fun z => k (h.mp z)
    omega
theorem pr_keep {g : pH} (hG : g_I eG g) (hx : xL g) (hR : R0 g) : pr_ R0 126 209 [] 0 true g := by
  unfold pr_
  obtain ⟨q1, q2, q3, q4⟩ := hR.1
  refine ck_run (by decide) (by decide) hG hx q1 (fun g1 G1 X1 M1 t1 u1 n1 => ?_) rfl
  have k2 : g1.1 196 0 = g.1 196 0 := (M1.1 196 0 (fr_n M1 mi_35)).1
  refine ⟨_, rfl, rfl, mk_run (by decide) (by decide) G1 X1 (fun g2 G2 X2 M2 v2 t2 u2 => ?_) rfl⟩
  refine ⟨_, rfl, rfl, G2, X2, ⟨⟨fr_S M2 mi_33 (fr_S M1 mi_31 q1), fr_T M2 mi_34 (fr_T M1 mi_32 q2), fun j hj => ?_, fun j hj => ?_, ?_⟩, ?_⟩, fun _ => ?_⟩
  · rw [cF_M M2 (mk_n j hj).1, n1 j hj]
    unfold bM
    rw [v2, k2]
    exact q3 j hj
  · rw [cF_M M2 (mk_n j hj).2.1, u1 j hj, u2, k2]
    exact q3 j hj
  · rw [cF_M M2 (fr_n M2 mi_36), t1, t2]
  · rw [cF_M M2 (fr_n M2 mi_37), cF_M M1 (fr_n M1 mi_38), cF_M M2 (fr_n M2 mi_39), cF_M M1 (fr_n M1 mi_40)]
    exact hR.2
  · rw [k2]
    exact congrArg (fun z => (oI z : pv)) (ctl_e (fun j hj => bz_c (cs4_2 hj hG) (q3 j hj)))
theorem mi_41 : kk_59.2.2.2.1 &&& mS = 0 := by decide +kernel
theorem mi_42 : kk_59.2.2.2.1 &&& mT = 0 := by decide +kernel
theorem mi_43 : kk_60.2.2.2.1 &&& mS = 0 := by decide +kernel
theorem mi_44 : kk_60.2.2.2.1 &&& mT = 0 := by decide +kernel
theorem mi_45 : kk_59.2.2.2.1 &&& 2 ^ (cn 196 + 73) = 0 := by decide +kernel
theorem mi_46 : kk_59.2.2.2.1 &&& 2 ^ (cn 196 + 72) = 0 := by decide +kernel
theorem mi_47 : kk_60.2.2.2.1 &&& 2 ^ (cn 196 + 73) = 0 := by decide +kernel
theorem mi_48 : kk_60.2.2.2.1 &&& 2 ^ (cn 0 + 4) = 0 := by decide +kernel
theorem mi_49 : kk_60.2.2.2.1 &&& 2 ^ (cn 196 + 72) = 0 := by decide +kernel
theorem mi_50 : kk_60.2.2.2.1 &&& 2 ^ (cn 0 + 1) = 0 := by decide +kernel
theorem mi_51 : kk_59.2.2.2.1 &&& 2 ^ (cn 0 + 1) = 0 := by decide +kernel
theorem mi_52 : kk_60.2.2.2.1 &&& 2 ^ (cn 196 + 17) = 0 := by decide +kernel
theorem mi_53 : kk_59.2.2.2.1 &&& 2 ^ (cn 196 + 17) = 0 := by decide +kernel
theorem pr_undo {g : pH} (hG : g_I eG g) (hx : xL g) (hR : R0 g) : pr_ R0 160 270 [] 0 true g := by
  unfold pr_
  obtain ⟨q1, q2, q3, q4⟩ := hR.1
  have hz : cF g 0 4 = 0 ∨ cF g 0 4 = 1 := by
    have := cb_0_4 hG
    omega
  refine cu_run (by decide) (by decide) hG hx q1 (fun z1 g1 G1 X1 M1 n1 u1 => ?_) (fun z1 => ?_) rfl
  · have k2 : g1.1 196 73 = g.1 196 73 := (M1.1 196 73 (fr_n M1 mi_45)).1
    have k3 : cF g1 196 72 = cF g 196 72 := cF_M M1 (fr_n M1 mi_46)
    have k4 : cF g1 0 4 = cF g 0 4 := cF_M M1 Wun_4
    refine ⟨_, rfl, rfl, mu_run (by decide) (by decide) G1 X1 (fun z2 g2 G2 X2 M2 v2 => ?_) (fun z2 => ?_) rfl⟩
    · have k5 : g2.1 196 73 = g1.1 196 73 := (M2.1 196 73 (fr_n M2 mi_47)).1
      refine ⟨_, rfl, rfl, G2, X2, ⟨⟨fr_S M2 mi_43 (fr_S M1 mi_41 q1), fr_T M2 mi_44 (fr_T M1 mi_42 q2), fun j hj => ?_, fun j hj => ?_, ?_⟩, ?_⟩, fun _ => ?_⟩
      · rw [cF_M M2 (mk_n j hj).2.2.1, n1 j hj]
        unfold bM
        rw [v2, k2]
        exact q4.1 j hj
      · rw [cF_M M2 (mk_n j hj).2.2.2, u1 j hj, k5, k2]
        exact q4.1 j hj
      · rw [cF_M M2 (fr_n M2 mi_48), k4, cF_M M2 (fr_n M2 mi_49), k3]
        exact q4.2
      · rw [cF_M M2 (fr_n M2 mi_50), cF_M M1 (fr_n M1 mi_51), cF_M M2 (fr_n M2 mi_52), cF_M M1 (fr_n M1 mi_53)]
        exact hR.2
      · rw [show cF g 0 4 = 1 by omega]
    · exfalso
      have := q4.2
      omega
  · refine ⟨_, rfl, rfl, mu_run (by decide) (by decide) hG hx (fun z2 g2 G2 X2 M2 v2 => ?_) (fun z2 => ?_) rfl⟩
    · exfalso
      have := q4.2
      omega
    · exact ⟨_, rfl, rfl, hG, hx, hR, fun _ => by rw [z1]⟩
