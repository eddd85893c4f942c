/-! the slides' data: what both sides know; ops as pairs with it (printed by wip/e2/x14.py) -/
def mD8 : Nat := 2829468488480666611714137412719447485486726986197865667656380521554730655498891008338280240508784948825840322769557212981037153503779985770907962276741870178110860622430853748618083529682272059080187464043259634744717454964948069550998155175033191316056337269291665344726790331080343624362461190156223250432
def mD9 : Nat := 2829468488480666611714137412737174108407690548481358501010256403705038074818751877496259393418492264475354573209501102533346146254303060919850349059512677745296559438107910425734267700235753290298137568207653612980847903984263779568468889737979364849339545640551320092455479740372231445386570838775204675584
def dRs (g : pH) (m : Nat) : Prop := (cF g (4 + 2 * m) 3 = fA g 199 m ∧ cF g (4 + 2 * m) 4 = fA g 200 m ∧ cF g (4 + 2 * m) 5 = fA g 201 m ∧ cF g (4 + 2 * m) 6 = fA g 202 m) ∧ ∀ j, j < 25 → fA g (5 + 2 * m) j = fA g 210 (25 * m + j)
def dRk (g : pH) (m : Nat) : Prop := (cF g (78 + 2 * m) 3 = fA g 242 m ∧ cF g (78 + 2 * m) 4 = fA g 243 m ∧ cF g (78 + 2 * m) 5 = fA g 244 m ∧ cF g (78 + 2 * m) 6 = fA g 245 m) ∧ ∀ j, j < 25 → fA g (79 + 2 * m) j = fA g 253 (25 * m + j)
def dRb (g : pH) (K : Nat) : Prop := ∀ k : Nat, k < 800 → -128 ≤ fA g K k ∧ fA g K k ≤ 127
/-- the slides' data, as both sides have it -/
def RDx (g : pH) : Prop := (∀ m, m < 32 → dRs g m) ∧ (∀ m, m < 32 → dRk g m) ∧ dRb g 210 ∧ dRb g 253
def RD (g : pH) : Prop := RDx g ∧ cF g 196 49 = 0
theorem nB_x {W D j : Nat} (h1 : nBb W D j = true) : W.testBit (cn (D + 2 * j) + 3) = false ∧ W.testBit (cn (D + 2 * j) + 4) = false ∧ W.testBit (cn (D + 2 * j) + 5) = false ∧ W.testBit (cn (D + 2 * j) + 6) = false ∧ W.testBit (cn (D + 1 + 2 * j)) = false := by
  have h2 := List.all_eq_true.mp h1
  have k : ∀ i, i ∈ [cn (D + 2 * j) + 3, cn (D + 2 * j) + 4, cn (D + 2 * j) + 5, cn (D + 2 * j) + 6, cn (D + 1 + 2 * j)] → W.testBit i = false := fun i hi => by
    have := h2 i hi
    rw [Bool.not_eq_true'] at this
    exact this
  exact ⟨k _ (.head _), k _ (.tail _ (.head _)), k _ (.tail _ (.tail _ (.head _))), k _ (.tail _ (.tail _ (.tail _ (.head _)))), k _ (.tail _ (.tail _ (.tail _ (.tail _ (.head _)))))⟩
def nBt (W D j : Nat) : Bool := [cn (D + 2 * j) + 3, cn (D + 2 * j) + 4, cn (D + 2 * j) + 5, cn (D + 2 * j) + 6, cn (D + 1 + 2 * j)].all (fun i => W.testBit i)
theorem nB_t {V M D j : Nat} (hW : V &&& M = 0) (h : nBt M D j = true) : nBb V D j = true := by
  refine List.all_eq_true.mpr (fun i hi => ?_)
  rw [Bool.not_eq_true']
  exact mx_f hW (List.all_eq_true.mp h i hi)
def aBs (W : Nat) : Bool := [199, 200, 201, 202, 210].all (fun K => !W.testBit (cn K))
def aBk (W : Nat) : Bool := [242, 243, 244, 245, 253].all (fun K => !W.testBit (cn K))
theorem aB_x {W : Nat} {L : List Nat} (h : L.all (fun K => !W.testBit (cn K)) = true) {g g1 : pH} (hM : f_M W g g1) : ∀ K, K ∈ L → fA g1 K = fA g K := fun K hK => by
  have := List.all_eq_true.mp h K hK
  rw [Bool.not_eq_true'] at this
  exact fA_M hM this
theorem mD_b : (∀ m, m < 32 → nBt mD8 4 m = true ∧ nBt mD8 78 m = true) ∧ [199, 200, 201, 202, 210].all (fun K => mD8.testBit (cn K)) = true ∧ [242, 243, 244, 245, 253].all (fun K => mD8.testBit (cn K)) = true ∧ mD9 &&& mD8 = mD8 ∧ mD9.testBit (cn 196 + 49) = true := by decide +kernel
theorem aB_t {V M : Nat} {L : List Nat} (hW : V &&& M = 0) (h : L.all (fun K => M.testBit (cn K)) = true) : L.all (fun K => !V.testBit (cn K)) = true := by
  refine List.all_eq_true.mpr (fun K hK => ?_)
  rw [Bool.not_eq_true']
  exact mx_f hW (List.all_eq_true.mp h K hK)
theorem dRs_f {W : Nat} {g g1 : pH} {m : Nat} (hM : f_M W g g1) (h1 : nBb W 4 m = true) (h2 : ∀ K, K ∈ ([199, 200, 201, 202, 210] : List Nat) → fA g1 K = fA g K) (h : dRs g m) : dRs g1 m := by
  obtain ⟨b3, b4, b5, b6, bp⟩ := nB_x h1
  obtain ⟨⟨a3, a4, a5, a6⟩, ap⟩ := h
  refine ⟨⟨((cF_M hM b3).trans a3).trans (congrFun (h2 199 (.head _)) m).symm, ((cF_M hM b4).trans a4).trans (congrFun (h2 200 (.tail _ (.head _))) m).symm, ((cF_M hM b5).trans a5).trans (congrFun (h2 201 (.tail _ (.tail _ (.head _)))) m).symm, ((cF_M hM b6).trans a6).trans (congrFun (h2 202 (.tail _ (.tail _ (.tail _ (.head _))))) m).symm⟩, fun j hj => ?_⟩
  rw [h2 210 (.tail _ (.tail _ (.tail _ (.tail _ (.head _)))))]
  exact (congrFun (fA_M hM bp) j).trans (ap j hj)
theorem dRk_f {W : Nat} {g g1 : pH} {m : Nat} (hM : f_M W g g1) (h1 : nBb W 78 m = true) (h2 : ∀ K, K ∈ ([242, 243, 244, 245, 253] : List Nat) → fA g1 K = fA g K) (h : dRk g m) : dRk g1 m := by
  obtain ⟨b3, b4, b5, b6, bp⟩ := nB_x h1
  obtain ⟨⟨a3, a4, a5, a6⟩, ap⟩ := h
  refine ⟨⟨((cF_M hM b3).trans a3).trans (congrFun (h2 242 (.head _)) m).symm, ((cF_M hM b4).trans a4).trans (congrFun (h2 243 (.tail _ (.head _))) m).symm, ((cF_M hM b5).trans a5).trans (congrFun (h2 244 (.tail _ (.tail _ (.head _)))) m).symm, ((cF_M hM b6).trans a6).trans (congrFun (h2 245 (.tail _ (.tail _ (.tail _ (.head _))))) m).symm⟩, fun j hj => ?_⟩
  rw [h2 253 (.tail _ (.tail _ (.tail _ (.tail _ (.head _)))))]
  exact (congrFun (fA_M hM bp) j).trans (ap j hj)
theorem dRb_e {g g1 : pH} {K : Nat} (e : fA g1 K = fA g K) (h : dRb g K) : dRb g1 K := fun k hk => by
  rw [e]
  exact h k hk
theorem RDx_f {W : Nat} {g g1 : pH} (hM : f_M W g g1) (hW : W &&& mD8 = 0) (h : RDx g) : RDx g1 := by
  obtain ⟨h1, h2, h3, h4⟩ := h
  have as := aB_x (aB_t hW mD_b.2.1) hM
  have ak := aB_x (aB_t hW mD_b.2.2.1) hM
  exact ⟨fun m hm => dRs_f hM (nB_t hW (mD_b.1 m hm).1) as (h1 m hm), fun m hm => dRk_f hM (nB_t hW (mD_b.1 m hm).2) ak (h2 m hm), dRb_e (as 210 (.tail _ (.tail _ (.tail _ (.tail _ (.head _)))))) h3, dRb_e (ak 253 (.tail _ (.tail _ (.tail _ (.tail _ (.head _)))))) h4⟩
theorem mD98 {W : Nat} (h : W &&& mD9 = 0) : W &&& mD8 = 0 := by
  rw [← mD_b.2.2.2.1, ← Nat.and_assoc, h, Nat.zero_and]
theorem RD_f {W : Nat} {g g1 : pH} (hM : f_M W g g1) (hW : W &&& mD9 = 0) (h : RD g) : RD g1 := ⟨RDx_f hM (mD98 hW) h.1, (cF_M hM (mx_f hW mD_b.2.2.2.2)).trans h.2⟩
theorem RD_e {g g1 : pH} (h1 : ∀ b m y : Nat, b = 4 ∨ b = 78 → 3 ≤ y → y ≤ 6 → m < 32 → cF g1 (b + 2 * m) y = cF g (b + 2 * m) y) (h2 : cF g1 196 49 = cF g 196 49) (hA : ∀ K, fA g1 K = fA g K) (h : RD g) : RD g1 := by
  obtain ⟨⟨r1, r2, r3, r4⟩, r5⟩ := h
  refine ⟨⟨fun m hm => ?_, fun m hm => ?_, dRb_e (hA _) r3, dRb_e (hA _) r4⟩, h2.trans r5⟩
  · obtain ⟨⟨a3, a4, a5, a6⟩, ap⟩ := r1 m hm
    have f := fun y hy hz => h1 4 m y (Or.inl rfl) hy hz hm
    exact ⟨⟨((f 3 (by decide) (by decide)).trans a3).trans (congrFun (hA 199) m).symm, ((f 4 (by decide) (by decide)).trans a4).trans (congrFun (hA 200) m).symm, ((f 5 (by decide) (by decide)).trans a5).trans (congrFun (hA 201) m).symm, ((f 6 (by decide) (by decide)).trans a6).trans (congrFun (hA 202) m).symm⟩, fun j hj => by rw [hA, hA]; exact ap j hj⟩
  · obtain ⟨⟨a3, a4, a5, a6⟩, ap⟩ := r2 m hm
    have f := fun y hy hz => h1 78 m y (Or.inr rfl) hy hz hm
    exact ⟨⟨((f 3 (by decide) (by decide)).trans a3).trans (congrFun (hA 242) m).symm, ((f 4 (by decide) (by decide)).trans a4).trans (congrFun (hA 243) m).symm, ((f 5 (by decide) (by decide)).trans a5).trans (congrFun (hA 244) m).symm, ((f 6 (by decide) (by decide)).trans a6).trans (congrFun (hA 245) m).symm⟩, fun j hj => by rw [hA, hA]; exact ap j hj⟩
theorem pr_aq {R R' : pH → Prop} {μ ν : Nat} {as : List pv} {τ : Nat} {g : pH} (h : pr_ R μ ν as τ true g) (h' : t_X 99 μ 0 (px_ar 0 (pvR 0 :: as)) [] g (fun o => ∃ v, o.1 = some v ∧ t_X 99 ν 0 (px_ar 0 (pvR 196 :: as)) [] o.2 (fun o2 => ∃ w, o2.1 = some w ∧ (v = w → R' o2.2)))) : pr_ (fun g => R g ∧ R' g) μ ν as τ true g := t_mono (t_and h h') (fun o ho => by
  obtain ⟨⟨v, h1, h2, h3⟩, v', h4, h5⟩ := ho
  obtain rfl : v = v' := Option.some.inj (h1.symm.trans h4)
  refine ⟨v, h1, h2, t_mono (t_and h3 h5) (fun o2 ho2 => ?_)⟩
  obtain ⟨⟨w, k1, k2, k3, k4, k5, k6⟩, w', k7, k8⟩ := ho2
  obtain rfl : w = w' := Option.some.inj (k1.symm.trans k7)
  exact ⟨w, k1, k2, k3, k4, ⟨k5, k8 (k6 rfl)⟩, k6⟩)
/-- both sides' state with the law in use and the slides' data -/
def R17 (g : pH) : Prop := R8 g ∧ RD g
theorem md9_0 : kk_0.2.2.2.1 &&& mD9 = 0 := by decide +kernel
theorem md9_1 : kk_1.2.2.2.1 &&& mD9 = 0 := by decide +kernel
theorem pwD_feed {g : pH} (hG : g_I eG g) (hx : xL g) (hR : R0 g) (hT : RD g) (x1 x2 x3 x4 x5 : Int32) : pr_ RD 119 189 [.inl x1, .inl x2, .inl x3, .inl x4, .inl x5] 0 false g := by
  unfold pr_
  refine kc_go (k := kk_0) in_k0 rfl (by decide) hG hx (vs := [pvR 0, .inl x1, .inl x2, .inl x3, .inl x4, .inl x5]) (xs := [cv (pvR 0), x1.toInt, x2.toInt, x3.toInt, x4.toInt, x5.toInt]) ⟨by decide, ⟨⟨pvR 0, rfl, rfl, rfl, ok_0⟩, ⟨.inl x1, rfl, rfl, rfl, ok_full32 _⟩, ⟨.inl x2, rfl, rfl, rfl, ok_full32 _⟩, ⟨.inl x3, rfl, rfl, rfl, ok_full32 _⟩, ⟨.inl x4, rfl, rfl, rfl, ok_full32 _⟩, ⟨.inl x5, rfl, rfl, rfl, ok_full32 _⟩, trivial⟩, trivial, fun c hc => by cases hc⟩ rfl (n := 0) (by decide +kernel) (fun v1 g1 c1 G1 X1 M1 => ⟨v1, rfl, c1, ?_⟩)
  have Q1 := RD_f M1 md9_0 hT
  exact kc_go (k := kk_1) in_k1 rfl (by decide) G1 X1 (vs := [pvR 196, .inl x1, .inl x2, .inl x3, .inl x4, .inl x5]) (xs := [cv (pvR 196), x1.toInt, x2.toInt, x3.toInt, x4.toInt, x5.toInt]) ⟨by decide, ⟨⟨pvR 196, rfl, rfl, rfl, ok_this⟩, ⟨.inl x1, rfl, rfl, rfl, ok_full32 _⟩, ⟨.inl x2, rfl, rfl, rfl, ok_full32 _⟩, ⟨.inl x3, rfl, rfl, rfl, ok_full32 _⟩, ⟨.inl x4, rfl, rfl, rfl, ok_full32 _⟩, ⟨.inl x5, rfl, rfl, rfl, ok_full32 _⟩, trivial⟩, trivial, fun c hc => by cases hc⟩ rfl (n := 0) (by decide +kernel) (fun v2 g2 c2 G2 X2 M2 => ⟨v2, rfl, c2, G2, X2, RD_f M2 md9_1 Q1, fun z => by cases z⟩)
theorem md9_2 : kk_4.2.2.2.1 &&& mD9 = 0 := by decide +kernel
theorem md9_3 : kk_5.2.2.2.1 &&& mD9 = 0 := by decide +kernel
theorem pwD_put {g : pH} (hG : g_I eG g) (hx : xL g) (hR : R0 g) (hT : RD g) (x1 x2 : Int32) : pr_ RD 139 231 [.inl x1, .inl x2] 0 false g := by
  unfold pr_
  refine kc_go (k := kk_4) in_k4 rfl (by decide) hG hx (vs := [pvR 0, .inl x1, .inl x2]) (xs := [cv (pvR 0), x1.toInt, x2.toInt]) ⟨by decide, ⟨⟨pvR 0, rfl, rfl, rfl, ok_0⟩, ⟨.inl x1, rfl, rfl, rfl, ok_full32 _⟩, ⟨.inl x2, rfl, rfl, rfl, ok_full32 _⟩, trivial⟩, trivial, fun c hc => by cases hc⟩ rfl (n := 0) (by decide +kernel) (fun v1 g1 c1 G1 X1 M1 => ⟨v1, rfl, c1, ?_⟩)
  have Q1 := RD_f M1 md9_2 hT
  exact kc_go (k := kk_5) in_k5 rfl (by decide) G1 X1 (vs := [pvR 196, .inl x1, .inl x2]) (xs := [cv (pvR 196), x1.toInt, x2.toInt]) ⟨by decide, ⟨⟨pvR 196, rfl, rfl, rfl, ok_this⟩, ⟨.inl x1, rfl, rfl, rfl, ok_full32 _⟩, ⟨.inl x2, rfl, rfl, rfl, ok_full32 _⟩, trivial⟩, trivial, fun c hc => by cases hc⟩ rfl (n := 0) (by decide +kernel) (fun v2 g2 c2 G2 X2 M2 => ⟨v2, rfl, c2, G2, X2, RD_f M2 md9_3 Q1, fun z => by cases z⟩)
theorem md9_4 : kk_8.2.2.2.1 &&& mD9 = 0 := by decide +kernel
theorem md9_5 : kk_9.2.2.2.1 &&& mD9 = 0 := by decide +kernel
theorem pwD_gone {g : pH} (hG : g_I eG g) (hx : xL g) (hR : R0 g) (hT : RD g) (x1 : Int32) : pr_ RD 120 194 [.inl x1] 0 false g := by
  unfold pr_
  refine kc_go (k := kk_8) in_k8 rfl (by decide) hG hx (vs := [pvR 0, .inl x1]) (xs := [cv (pvR 0), x1.toInt]) ⟨by decide, ⟨⟨pvR 0, rfl, rfl, rfl, ok_0⟩, ⟨.inl x1, rfl, rfl, rfl, ok_full32 _⟩, trivial⟩, trivial, fun c hc => by cases hc⟩ rfl (n := 0) (by decide +kernel) (fun v1 g1 c1 G1 X1 M1 => ⟨v1, rfl, c1, ?_⟩)
  have Q1 := RD_f M1 md9_4 hT
  exact kc_go (k := kk_9) in_k9 rfl (by decide) G1 X1 (vs := [pvR 196, .inl x1]) (xs := [cv (pvR 196), x1.toInt]) ⟨by decide, ⟨⟨pvR 196, rfl, rfl, rfl, ok_this⟩, ⟨.inl x1, rfl, rfl, rfl, ok_full32 _⟩, trivial⟩, trivial, fun c hc => by cases hc⟩ rfl (n := 0) (by decide +kernel) (fun v2 g2 c2 G2 X2 M2 => ⟨v2, rfl, c2, G2, X2, RD_f M2 md9_5 Q1, fun z => by cases z⟩)
theorem md9_6 : kk_10.2.2.2.1 &&& mD9 = 0 := by decide +kernel
theorem md9_7 : kk_11.2.2.2.1 &&& mD9 = 0 := by decide +kernel
theorem pwD_looker {g : pH} (hG : g_I eG g) (hx : xL g) (hR : R0 g) (hT : RD g) (x1 x2 x3 : Int32) : pr_ RD 134 221 [.inl x1, .inl x2, .inl x3] 0 false g := by
  unfold pr_
  refine kc_go (k := kk_10) in_k10 rfl (by decide) hG hx (vs := [pvR 0, .inl x1, .inl x2, .inl x3]) (xs := [cv (pvR 0), x1.toInt, x2.toInt, x3.toInt]) ⟨by decide, ⟨⟨pvR 0, rfl, rfl, rfl, ok_0⟩, ⟨.inl x1, rfl, rfl, rfl, ok_full32 _⟩, ⟨.inl x2, rfl, rfl, rfl, ok_full32 _⟩, ⟨.inl x3, rfl, rfl, rfl, ok_full32 _⟩, trivial⟩, trivial, fun c hc => by cases hc⟩ rfl (n := 0) (by decide +kernel) (fun v1 g1 c1 G1 X1 M1 => ⟨v1, rfl, c1, ?_⟩)
  have Q1 := RD_f M1 md9_6 hT
  exact kc_go (k := kk_11) in_k11 rfl (by decide) G1 X1 (vs := [pvR 196, .inl x1, .inl x2, .inl x3]) (xs := [cv (pvR 196), x1.toInt, x2.toInt, x3.toInt]) ⟨by decide, ⟨⟨pvR 196, rfl, rfl, rfl, ok_this⟩, ⟨.inl x1, rfl, rfl, rfl, ok_full32 _⟩, ⟨.inl x2, rfl, rfl, rfl, ok_full32 _⟩, ⟨.inl x3, rfl, rfl, rfl, ok_full32 _⟩, trivial⟩, trivial, fun c hc => by cases hc⟩ rfl (n := 0) (by decide +kernel) (fun v2 g2 c2 G2 X2 M2 => ⟨v2, rfl, c2, G2, X2, RD_f M2 md9_7 Q1, fun z => by cases z⟩)
theorem md9_8 : kk_12.2.2.2.1 &&& mD9 = 0 := by decide +kernel
theorem md9_9 : kk_13.2.2.2.1 &&& mD9 = 0 := by decide +kernel
theorem pwD_lamps {g : pH} (hG : g_I eG g) (hx : xL g) (hR : R0 g) (hT : RD g) (x1 : Int32) : pr_ RD 128 211 [.inl x1] 0 false g := by
  unfold pr_
  refine kc_go (k := kk_12) in_k12 rfl (by decide) hG hx (vs := [pvR 0, .inl x1]) (xs := [cv (pvR 0), x1.toInt]) ⟨by decide, ⟨⟨pvR 0, rfl, rfl, rfl, ok_0⟩, ⟨.inl x1, rfl, rfl, rfl, ok_full32 _⟩, trivial⟩, trivial, fun c hc => by cases hc⟩ rfl (n := 0) (by decide +kernel) (fun v1 g1 c1 G1 X1 M1 => ⟨v1, rfl, c1, ?_⟩)
  have Q1 := RD_f M1 md9_8 hT
  exact kc_go (k := kk_13) in_k13 rfl (by decide) G1 X1 (vs := [pvR 196, .inl x1]) (xs := [cv (pvR 196), x1.toInt]) ⟨by decide, ⟨⟨pvR 196, rfl, rfl, rfl, ok_this⟩, ⟨.inl x1, rfl, rfl, rfl, ok_full32 _⟩, trivial⟩, trivial, fun c hc => by cases hc⟩ rfl (n := 0) (by decide +kernel) (fun v2 g2 c2 G2 X2 M2 => ⟨v2, rfl, c2, G2, X2, RD_f M2 md9_9 Q1, fun z => by cases z⟩)
theorem md9_10 : kk_20.2.2.2.1 &&& mD9 = 0 := by decide +kernel
theorem md9_11 : Wt &&& mD9 = 0 := by decide +kernel
theorem pwD_tray {g : pH} (hG : g_I eG g) (hx : xL g) (hR : R0 g) (hT : RD g) (x1 : Int32) : pr_ RD 157 264 [.inl x1] 0 false g := by
  unfold pr_
  refine kc_go (k := kk_20) in_k20 rfl (by decide) hG hx (vs := [pvR 0, .inl x1]) (xs := [cv (pvR 0), x1.toInt]) ⟨by decide, ⟨⟨pvR 0, rfl, rfl, rfl, ok_0⟩, ⟨.inl x1, rfl, rfl, rfl, ok_full32 _⟩, trivial⟩, trivial, fun c hc => by cases hc⟩ rfl (n := 0) (by decide +kernel) (fun v1 g1 c1 G1 X1 M1 => ⟨v1, rfl, c1, ?_⟩)
  have Q1 := RD_f M1 md9_10 hT
  exact ty9_run (n := x1.toInt) (by decide) G1 (i32_b _) (fun z2 g2 v2 J2 t2 => ⟨_, rfl, rfl, J2.1, xL_K _ _ _ J2.2 Wt_a.2.2.2.2 X1, RD_f J2.2 md9_11 Q1, fun z => by cases z⟩) (fun z2 => ⟨_, rfl, rfl, G1, X1, Q1, fun z => by cases z⟩) rfl (congrArg some (oI_r x1))
theorem md9_12 : kk_23.2.2.2.1 &&& mD9 = 0 := by decide +kernel
theorem md9_13 : WL &&& mD9 = 0 := by decide +kernel
theorem pwD_law {g : pH} (hG : g_I eG g) (hx : xL g) (hR : R0 g) (hT : RD g) (x1 : Int32) : pr_ RD 129 213 [.inl x1] 0 false g := by
  unfold pr_
  refine kc_go (k := kk_23) in_k23 rfl (by decide) hG hx (vs := [pvR 0, .inl x1]) (xs := [cv (pvR 0), x1.toInt]) ⟨by decide, ⟨⟨pvR 0, rfl, rfl, rfl, ok_0⟩, ⟨.inl x1, rfl, rfl, rfl, ok_full32 _⟩, trivial⟩, trivial, fun c hc => by cases hc⟩ rfl (n := 0) (by decide +kernel) (fun v1 g1 c1 G1 X1 M1 => ⟨v1, rfl, c1, ?_⟩)
  have Q1 := RD_f M1 md9_12 hT
  exact lw9_run (n := x1.toInt) (by decide) G1 X1 (i32_b _) (fun z2 g2 v2 J2 X2 t2 => ⟨_, rfl, rfl, J2.1, X2, RD_f J2.2 md9_13 Q1, fun z => by cases z⟩) (fun z2 => ⟨_, rfl, rfl, G1, X1, Q1, fun z => by cases z⟩) rfl (congrArg some (oI_r x1))
theorem md9_14 : kk_14.2.2.2.1 &&& mD9 = 0 := by decide +kernel
theorem md9_15 : kk_15.2.2.2.1 &&& mD9 = 0 := by decide +kernel
theorem pwD_ways {g : pH} (hG : g_I eG g) (hx : xL g) (hR : R0 g) (hT : RD g) (x1 x2 x3 : Int32) : pr_ RD 164 273 [.inl x1, .inl x2, .inl x3] 0 false g := by
  unfold pr_
  refine kc_go (k := kk_14) in_k14 rfl (by decide) hG hx (vs := [pvR 0, .inl x1, .inl x2, .inl x3]) (xs := [cv (pvR 0), x1.toInt, x2.toInt, x3.toInt]) ⟨by decide, ⟨⟨pvR 0, rfl, rfl, rfl, ok_0⟩, ⟨.inl x1, rfl, rfl, rfl, ok_full32 _⟩, ⟨.inl x2, rfl, rfl, rfl, ok_full32 _⟩, ⟨.inl x3, rfl, rfl, rfl, ok_full32 _⟩, trivial⟩, trivial, fun c hc => by cases hc⟩ rfl (n := 0) (by decide +kernel) (fun v1 g1 c1 G1 X1 M1 => ⟨v1, rfl, c1, ?_⟩)
  have Q1 := RD_f M1 md9_14 hT
  exact kc_go (k := kk_15) in_k15 rfl (by decide) G1 X1 (vs := [pvR 196, .inl x1, .inl x2, .inl x3]) (xs := [cv (pvR 196), x1.toInt, x2.toInt, x3.toInt]) ⟨by decide, ⟨⟨pvR 196, rfl, rfl, rfl, ok_this⟩, ⟨.inl x1, rfl, rfl, rfl, ok_full32 _⟩, ⟨.inl x2, rfl, rfl, rfl, ok_full32 _⟩, ⟨.inl x3, rfl, rfl, rfl, ok_full32 _⟩, trivial⟩, trivial, fun c hc => by cases hc⟩ rfl (n := 0) (by decide +kernel) (fun v2 g2 c2 G2 X2 M2 => ⟨v2, rfl, c2, G2, X2, RD_f M2 md9_15 Q1, fun z => by cases z⟩)
theorem md9_16 : kk_16.2.2.2.1 &&& mD9 = 0 := by decide +kernel
theorem md9_17 : kk_17.2.2.2.1 &&& mD9 = 0 := by decide +kernel
theorem pwD_shown {g : pH} (hG : g_I eG g) (hx : xL g) (hR : R0 g) (hT : RD g) (x1 x2 x3 : Int32) : pr_ RD 146 247 [.inl x1, .inl x2, .inl x3] 0 false g := by
  unfold pr_
  refine kc_go (k := kk_16) in_k16 rfl (by decide) hG hx (vs := [pvR 0, .inl x1, .inl x2, .inl x3]) (xs := [cv (pvR 0), x1.toInt, x2.toInt, x3.toInt]) ⟨by decide, ⟨⟨pvR 0, rfl, rfl, rfl, ok_0⟩, ⟨.inl x1, rfl, rfl, rfl, ok_full32 _⟩, ⟨.inl x2, rfl, rfl, rfl, ok_full32 _⟩, ⟨.inl x3, rfl, rfl, rfl, ok_full32 _⟩, trivial⟩, trivial, fun c hc => by cases hc⟩ rfl (n := 0) (by decide +kernel) (fun v1 g1 c1 G1 X1 M1 => ⟨v1, rfl, c1, ?_⟩)
  have Q1 := RD_f M1 md9_16 hT
  exact kc_go (k := kk_17) in_k17 rfl (by decide) G1 X1 (vs := [pvR 196, .inl x1, .inl x2, .inl x3]) (xs := [cv (pvR 196), x1.toInt, x2.toInt, x3.toInt]) ⟨by decide, ⟨⟨pvR 196, rfl, rfl, rfl, ok_this⟩, ⟨.inl x1, rfl, rfl, rfl, ok_full32 _⟩, ⟨.inl x2, rfl, rfl, rfl, ok_full32 _⟩, ⟨.inl x3, rfl, rfl, rfl, ok_full32 _⟩, trivial⟩, trivial, fun c hc => by cases hc⟩ rfl (n := 0) (by decide +kernel) (fun v2 g2 c2 G2 X2 M2 => ⟨v2, rfl, c2, G2, X2, RD_f M2 md9_17 Q1, fun z => by cases z⟩)
theorem md9_18 : kk_18.2.2.2.1 &&& mD9 = 0 := by decide +kernel
theorem md9_19 : kk_19.2.2.2.1 &&& mD9 = 0 := by decide +kernel
theorem pwD_slideIs {g : pH} (hG : g_I eG g) (hx : xL g) (hR : R0 g) (hT : RD g) (x1 x2 : Int32) : pr_ RD 148 252 [.inl x1, .inl x2] 0 false g := by
  unfold pr_
  refine kc_go (k := kk_18) in_k18 rfl (by decide) hG hx (vs := [pvR 0, .inl x1, .inl x2]) (xs := [cv (pvR 0), x1.toInt, x2.toInt]) ⟨by decide, ⟨⟨pvR 0, rfl, rfl, rfl, ok_0⟩, ⟨.inl x1, rfl, rfl, rfl, ok_full32 _⟩, ⟨.inl x2, rfl, rfl, rfl, ok_full32 _⟩, trivial⟩, trivial, fun c hc => by cases hc⟩ rfl (n := 0) (by decide +kernel) (fun v1 g1 c1 G1 X1 M1 => ⟨v1, rfl, c1, ?_⟩)
  have Q1 := RD_f M1 md9_18 hT
  exact kc_go (k := kk_19) in_k19 rfl (by decide) G1 X1 (vs := [pvR 196, .inl x1, .inl x2]) (xs := [cv (pvR 196), x1.toInt, x2.toInt]) ⟨by decide, ⟨⟨pvR 196, rfl, rfl, rfl, ok_this⟩, ⟨.inl x1, rfl, rfl, rfl, ok_full32 _⟩, ⟨.inl x2, rfl, rfl, rfl, ok_full32 _⟩, trivial⟩, trivial, fun c hc => by cases hc⟩ rfl (n := 0) (by decide +kernel) (fun v2 g2 c2 G2 X2 M2 => ⟨v2, rfl, c2, G2, X2, RD_f M2 md9_19 Q1, fun z => by cases z⟩)
theorem md9_20 : kk_21.2.2.2.1 &&& mD9 = 0 := by decide +kernel
theorem md9_21 : kk_22.2.2.2.1 &&& mD9 = 0 := by decide +kernel
theorem pwD_inTray {g : pH} (hG : g_I eG g) (hx : xL g) (hR : R0 g) (hT : RD g) (x1 : Int32) : pr_ RD 122 200 [.inl x1] 0 false g := by
  unfold pr_
  refine kc_go (k := kk_21) in_k21 rfl (by decide) hG hx (vs := [pvR 0, .inl x1]) (xs := [cv (pvR 0), x1.toInt]) ⟨by decide, ⟨⟨pvR 0, rfl, rfl, rfl, ok_0⟩, ⟨.inl x1, rfl, rfl, rfl, ok_full32 _⟩, trivial⟩, trivial, fun c hc => by cases hc⟩ rfl (n := 0) (by decide +kernel) (fun v1 g1 c1 G1 X1 M1 => ⟨v1, rfl, c1, ?_⟩)
  have Q1 := RD_f M1 md9_20 hT
  exact kc_go (k := kk_22) in_k22 rfl (by decide) G1 X1 (vs := [pvR 196, .inl x1]) (xs := [cv (pvR 196), x1.toInt]) ⟨by decide, ⟨⟨pvR 196, rfl, rfl, rfl, ok_this⟩, ⟨.inl x1, rfl, rfl, rfl, ok_full32 _⟩, trivial⟩, trivial, fun c hc => by cases hc⟩ rfl (n := 0) (by decide +kernel) (fun v2 g2 c2 G2 X2 M2 => ⟨v2, rfl, c2, G2, X2, RD_f M2 md9_21 Q1, fun z => by cases z⟩)
theorem md9_22 : kk_24.2.2.2.1 &&& mD9 = 0 := by decide +kernel
def kz_evening : eK := (187, (13, [(0, 2, (0, 100000, [197]))], [(196, 49, 0, (0, 0, []))], []), (0, []), 125567414943621957720360334002153196150525428116541307628163896161773374389507933251048950313246216415572006811222445601785206995284275098759567521372509898056513400447666170405098427714288677003199310794393430040847614120822727976501159650497918162881365320281107554025076705002525414256211990151168, [(some (0, ((-2147483648), 2147483647, [])), [(196, 49, 0, (0, 0, []))], [])])
theorem ez_evening : ex_mid eG eKT eDX 4000 kz_evening [] 0 = true := by decide +kernel
theorem md9_23 : kz_evening.2.2.2.1 &&& mD8 = 0 := by decide +kernel
theorem pwD_evening {g : pH} (hG : g_I eG g) (hx : xL g) (hR : R0 g) (hT : RD g) : pr_ RD 118 187 [] 0 false g := by
  unfold pr_
  refine kc_go (k := kk_24) in_k24 rfl (by decide) hG hx (vs := [pvR 0]) (xs := [cv (pvR 0)]) ⟨by decide, ⟨⟨pvR 0, rfl, rfl, rfl, ok_0⟩, trivial⟩, trivial, fun c hc => by cases hc⟩ rfl (n := 0) (by decide +kernel) (fun v1 g1 c1 G1 X1 M1 => ⟨v1, rfl, c1, ?_⟩)
  have Q1 := RD_f M1 md9_22 hT
  refine mid_L (k := kz_evening) ez_evening G1 X1 (xs := [cv (pvR 196)]) (ys := [cF g1 196 49]) ⟨by show 13 ≤ 99; decide, ⟨⟨pvR 196, rfl, rfl, rfl, ok_this⟩, trivial⟩, ⟨⟨.inl (g1.1 196 49), hc_i el_196 (Nat.le_of_ble_eq_true rfl) rfl, rfl, rfl, ⟨by show 0 ≤ cF g1 196 49; rw [Q1.2]; decide, by show cF g1 196 49 ≤ 0; rw [Q1.2]; decide, Or.inl rfl⟩⟩, trivial⟩, fun c hc => absurd hc List.not_mem_nil⟩ (by decide) (fun o G2 X2 M2 P2 => ?_)
  obtain ⟨o1, o2⟩ := o
  obtain ⟨z, rfl, -, ys, hF⟩ := po_i P2
  exact ⟨_, rfl, rfl, G2, X2, ⟨RDx_f M2 md9_23 Q1.1, fa_i el_196 (Nat.le_of_ble_eq_true rfl) rfl hF⟩, fun z => by cases z⟩
theorem md9_24 : kk_26.2.2.2.1 &&& mD9 = 0 := by decide +kernel
def kz_tried : eK := (265, (13, [(0, 2, (0, 100000, [197])), (1, 0, ((-2147483648), 2147483647, []))], [(196, 49, 0, (0, 0, []))], []), (0, []), 125567415021584469811560326644980255253526934603551122488923956376716626047211522777180359132971136942628088885024884931636476340751948457681192273745133796427014627803916392004750211953254994247119739981215826788681361151812212759904318650063889071805117045183729464449910925379180042976147303038976, [(some (0, ((-2147483648), 2147483647, [])), [(196, 49, 0, (0, 0, []))], [])])
theorem ez_tried : ex_mid eG eKT eDX 4000 kz_tried [] 0 = true := by decide +kernel
theorem md9_25 : kz_tried.2.2.2.1 &&& mD8 = 0 := by decide +kernel
theorem pwD_tried {g : pH} (hG : g_I eG g) (hx : xL g) (hR : R0 g) (hT : RD g) (x1 : Int32) : pr_ RD 158 265 [.inl x1] 0 false g := by
  unfold pr_
  refine kc_go (k := kk_26) in_k26 rfl (by decide) hG hx (vs := [pvR 0, .inl x1]) (xs := [cv (pvR 0), x1.toInt]) ⟨by decide, ⟨⟨pvR 0, rfl, rfl, rfl, ok_0⟩, ⟨.inl x1, rfl, rfl, rfl, ok_full32 _⟩, trivial⟩, trivial, fun c hc => by cases hc⟩ rfl (n := 0) (by decide +kernel) (fun v1 g1 c1 G1 X1 M1 => ⟨v1, rfl, c1, ?_⟩)
  have Q1 := RD_f M1 md9_24 hT
  refine mid_L (k := kz_tried) ez_tried G1 X1 (xs := [cv (pvR 196), x1.toInt]) (ys := [cF g1 196 49]) ⟨by show 13 ≤ 99; decide, ⟨⟨pvR 196, rfl, rfl, rfl, ok_this⟩, ⟨.inl x1, rfl, rfl, rfl, ok_full32 _⟩, trivial⟩, ⟨⟨.inl (g1.1 196 49), hc_i el_196 (Nat.le_of_ble_eq_true rfl) rfl, rfl, rfl, ⟨by show 0 ≤ cF g1 196 49; rw [Q1.2]; decide, by show cF g1 196 49 ≤ 0; rw [Q1.2]; decide, Or.inl rfl⟩⟩, trivial⟩, fun c hc => absurd hc List.not_mem_nil⟩ (by decide) (fun o G2 X2 M2 P2 => ?_)
  obtain ⟨o1, o2⟩ := o
  obtain ⟨z, rfl, -, ys, hF⟩ := po_i P2
  exact ⟨_, rfl, rfl, G2, X2, ⟨RDx_f M2 md9_25 Q1.1, fa_i el_196 (Nat.le_of_ble_eq_true rfl) rfl hF⟩, fun z => by cases z⟩
theorem md9_26 : kk_28.2.2.2.1 &&& mD9 = 0 := by decide +kernel
theorem md9_27 : kk_29.2.2.2.1 &&& mD9 = 0 := by decide +kernel
theorem pwD_odds {g : pH} (hG : g_I eG g) (hx : xL g) (hR : R0 g) (hT : RD g) (x1 x2 x3 x4 : Int32) : pr_ RD 137 228 [.inl x1, .inl x2, .inl x3, .inl x4] 0 false g := by
  unfold pr_
  refine kc_go (k := kk_28) in_k28 rfl (by decide) hG hx (vs := [pvR 0, .inl x1, .inl x2, .inl x3, .inl x4]) (xs := [cv (pvR 0), x1.toInt, x2.toInt, x3.toInt, x4.toInt]) ⟨by decide, ⟨⟨pvR 0, rfl, rfl, rfl, ok_0⟩, ⟨.inl x1, rfl, rfl, rfl, ok_full32 _⟩, ⟨.inl x2, rfl, rfl, rfl, ok_full32 _⟩, ⟨.inl x3, rfl, rfl, rfl, ok_full32 _⟩, ⟨.inl x4, rfl, rfl, rfl, ok_full32 _⟩, trivial⟩, trivial, fun c hc => by cases hc⟩ rfl (n := 0) (by decide +kernel) (fun v1 g1 c1 G1 X1 M1 => ⟨v1, rfl, c1, ?_⟩)
  have Q1 := RD_f M1 md9_26 hT
  exact kc_go (k := kk_29) in_k29 rfl (by decide) G1 X1 (vs := [pvR 196, .inl x1, .inl x2, .inl x3, .inl x4]) (xs := [cv (pvR 196), x1.toInt, x2.toInt, x3.toInt, x4.toInt]) ⟨by decide, ⟨⟨pvR 196, rfl, rfl, rfl, ok_this⟩, ⟨.inl x1, rfl, rfl, rfl, ok_full32 _⟩, ⟨.inl x2, rfl, rfl, rfl, ok_full32 _⟩, ⟨.inl x3, rfl, rfl, rfl, ok_full32 _⟩, ⟨.inl x4, rfl, rfl, rfl, ok_full32 _⟩, trivial⟩, trivial, fun c hc => by cases hc⟩ rfl (n := 0) (by decide +kernel) (fun v2 g2 c2 G2 X2 M2 => ⟨v2, rfl, c2, G2, X2, RD_f M2 md9_27 Q1, fun z => by cases z⟩)
theorem md9_28 : kk_30.2.2.2.1 &&& mD9 = 0 := by decide +kernel
theorem md9_29 : kk_31.2.2.2.1 &&& mD9 = 0 := by decide +kernel
theorem pwD_toTurn {g : pH} (hG : g_I eG g) (hx : xL g) (hR : R0 g) (hT : RD g) (x1 x2 : Int32) : pr_ RD 156 263 [.inl x1, .inl x2] 1 false g := by
  unfold pr_
  refine kc_go (k := kk_30) in_k30 rfl (by decide) hG hx (vs := [pvR 0, .inl x1, .inl x2]) (xs := [cv (pvR 0), x1.toInt, x2.toInt]) ⟨by decide, ⟨⟨pvR 0, rfl, rfl, rfl, ok_0⟩, ⟨.inl x1, rfl, rfl, rfl, ok_full32 _⟩, ⟨.inl x2, rfl, rfl, rfl, ok_full32 _⟩, trivial⟩, trivial, fun c hc => by cases hc⟩ rfl (n := 1) (by decide +kernel) (fun v1 g1 c1 G1 X1 M1 => ⟨v1, rfl, c1, ?_⟩)
  have Q1 := RD_f M1 md9_28 hT
  exact kc_go (k := kk_31) in_k31 rfl (by decide) G1 X1 (vs := [pvR 196, .inl x1, .inl x2]) (xs := [cv (pvR 196), x1.toInt, x2.toInt]) ⟨by decide, ⟨⟨pvR 196, rfl, rfl, rfl, ok_this⟩, ⟨.inl x1, rfl, rfl, rfl, ok_full32 _⟩, ⟨.inl x2, rfl, rfl, rfl, ok_full32 _⟩, trivial⟩, trivial, fun c hc => by cases hc⟩ rfl (n := 1) (by decide +kernel) (fun v2 g2 c2 G2 X2 M2 => ⟨v2, rfl, c2, G2, X2, RD_f M2 md9_29 Q1, fun z => by cases z⟩)
theorem md9_30 : kk_32.2.2.2.1 &&& mD9 = 0 := by decide +kernel
theorem md9_31 : kk_33.2.2.2.1 &&& mD9 = 0 := by decide +kernel
theorem pwD_leave {g : pH} (hG : g_I eG g) (hx : xL g) (hR : R0 g) (hT : RD g) (x1 x2 : Int32) : pr_ RD 130 217 [.inl x1, .inl x2] 1 false g := by
  unfold pr_
  refine kc_go (k := kk_32) in_k32 rfl (by decide) hG hx (vs := [pvR 0, .inl x1, .inl x2]) (xs := [cv (pvR 0), x1.toInt, x2.toInt]) ⟨by decide, ⟨⟨pvR 0, rfl, rfl, rfl, ok_0⟩, ⟨.inl x1, rfl, rfl, rfl, ok_full32 _⟩, ⟨.inl x2, rfl, rfl, rfl, ok_full32 _⟩, trivial⟩, trivial, fun c hc => by cases hc⟩ rfl (n := 1) (by decide +kernel) (fun v1 g1 c1 G1 X1 M1 => ⟨v1, rfl, c1, ?_⟩)
  have Q1 := RD_f M1 md9_30 hT
  exact kc_go (k := kk_33) in_k33 rfl (by decide) G1 X1 (vs := [pvR 196, .inl x1, .inl x2]) (xs := [cv (pvR 196), x1.toInt, x2.toInt]) ⟨by decide, ⟨⟨pvR 196, rfl, rfl, rfl, ok_this⟩, ⟨.inl x1, rfl, rfl, rfl, ok_full32 _⟩, ⟨.inl x2, rfl, rfl, rfl, ok_full32 _⟩, trivial⟩, trivial, fun c hc => by cases hc⟩ rfl (n := 1) (by decide +kernel) (fun v2 g2 c2 G2 X2 M2 => ⟨v2, rfl, c2, G2, X2, RD_f M2 md9_31 Q1, fun z => by cases z⟩)
theorem md9_32 : kk_36.2.2.2.1 &&& mD9 = 0 := by decide +kernel
theorem md9_33 : kk_37.2.2.2.1 &&& mD9 = 0 := by decide +kernel
theorem pwD_sure {g : pH} (hG : g_I eG g) (hx : xL g) (hR : R0 g) (hT : RD g) (x1 x2 : Int32) : pr_ RD 150 258 [.inl x1, .inl x2] 0 false g := by
  unfold pr_
  refine kc_go (k := kk_36) in_k36 rfl (by decide) hG hx (vs := [pvR 0, .inl x1, .inl x2]) (xs := [cv (pvR 0), x1.toInt, x2.toInt]) ⟨by decide, ⟨⟨pvR 0, rfl, rfl, rfl, ok_0⟩, ⟨.inl x1, rfl, rfl, rfl, ok_full32 _⟩, ⟨.inl x2, rfl, rfl, rfl, ok_full32 _⟩, trivial⟩, trivial, fun c hc => by cases hc⟩ rfl (n := 0) (by decide +kernel) (fun v1 g1 c1 G1 X1 M1 => ⟨v1, rfl, c1, ?_⟩)
  have Q1 := RD_f M1 md9_32 hT
  exact kc_go (k := kk_37) in_k37 rfl (by decide) G1 X1 (vs := [pvR 196, .inl x1, .inl x2]) (xs := [cv (pvR 196), x1.toInt, x2.toInt]) ⟨by decide, ⟨⟨pvR 196, rfl, rfl, rfl, ok_this⟩, ⟨.inl x1, rfl, rfl, rfl, ok_full32 _⟩, ⟨.inl x2, rfl, rfl, rfl, ok_full32 _⟩, trivial⟩, trivial, fun c hc => by cases hc⟩ rfl (n := 0) (by decide +kernel) (fun v2 g2 c2 G2 X2 M2 => ⟨v2, rfl, c2, G2, X2, RD_f M2 md9_33 Q1, fun z => by cases z⟩)
theorem md9_34 : kk_38.2.2.2.1 &&& mD9 = 0 := by decide +kernel
theorem md9_35 : kk_39.2.2.2.1 &&& mD9 = 0 := by decide +kernel
theorem pwD_dots {g : pH} (hG : g_I eG g) (hx : xL g) (hR : R0 g) (hT : RD g) (x1 x2 : Int32) : pr_ RD 117 184 [.inl x1, .inl x2] 0 false g := by
  unfold pr_
  refine kc_go (k := kk_38) in_k38 rfl (by decide) hG hx (vs := [pvR 0, .inl x1, .inl x2]) (xs := [cv (pvR 0), x1.toInt, x2.toInt]) ⟨by decide, ⟨⟨pvR 0, rfl, rfl, rfl, ok_0⟩, ⟨.inl x1, rfl, rfl, rfl, ok_full32 _⟩, ⟨.inl x2, rfl, rfl, rfl, ok_full32 _⟩, trivial⟩, trivial, fun c hc => by cases hc⟩ rfl (n := 0) (by decide +kernel) (fun v1 g1 c1 G1 X1 M1 => ⟨v1, rfl, c1, ?_⟩)
  have Q1 := RD_f M1 md9_34 hT
  exact kc_go (k := kk_39) in_k39 rfl (by decide) G1 X1 (vs := [pvR 196, .inl x1, .inl x2]) (xs := [cv (pvR 196), x1.toInt, x2.toInt]) ⟨by decide, ⟨⟨pvR 196, rfl, rfl, rfl, ok_this⟩, ⟨.inl x1, rfl, rfl, rfl, ok_full32 _⟩, ⟨.inl x2, rfl, rfl, rfl, ok_full32 _⟩, trivial⟩, trivial, fun c hc => by cases hc⟩ rfl (n := 0) (by decide +kernel) (fun v2 g2 c2 G2 X2 M2 => ⟨v2, rfl, c2, G2, X2, RD_f M2 md9_35 Q1, fun z => by cases z⟩)
theorem md9_36 : kk_34.2.2.2.1 &&& mD9 = 0 := by decide +kernel
theorem md9_37 : kk_35.2.2.2.1 &&& mD9 = 0 := by decide +kernel
theorem pwD_lightBox {g : pH} (hG : g_I eG g) (hx : xL g) (hR : R0 g) (hT : RD g) (x1 x2 : Int32) : pr_ RD 132 219 [.inl x1, .inl x2] 1 false g := by
  unfold pr_
  refine kc_go (k := kk_34) in_k34 rfl (by decide) hG hx (vs := [pvR 0, .inl x1, .inl x2]) (xs := [cv (pvR 0), x1.toInt, x2.toInt]) ⟨by decide, ⟨⟨pvR 0, rfl, rfl, rfl, ok_0⟩, ⟨.inl x1, rfl, rfl, rfl, ok_full32 _⟩, ⟨.inl x2, rfl, rfl, rfl, ok_full32 _⟩, trivial⟩, trivial, fun c hc => by cases hc⟩ rfl (n := 1) (by decide +kernel) (fun v1 g1 c1 G1 X1 M1 => ⟨v1, rfl, c1, ?_⟩)
  have Q1 := RD_f M1 md9_36 hT
  exact kc_go (k := kk_35) in_k35 rfl (by decide) G1 X1 (vs := [pvR 196, .inl x1, .inl x2]) (xs := [cv (pvR 196), x1.toInt, x2.toInt]) ⟨by decide, ⟨⟨pvR 196, rfl, rfl, rfl, ok_this⟩, ⟨.inl x1, rfl, rfl, rfl, ok_full32 _⟩, ⟨.inl x2, rfl, rfl, rfl, ok_full32 _⟩, trivial⟩, trivial, fun c hc => by cases hc⟩ rfl (n := 1) (by decide +kernel) (fun v2 g2 c2 G2 X2 M2 => ⟨v2, rfl, c2, G2, X2, RD_f M2 md9_37 Q1, fun z => by cases z⟩)
theorem md9_38 : kk_40.2.2.2.1 &&& mD9 = 0 := by decide +kernel
theorem md9_39 : kk_41.2.2.2.1 &&& mD9 = 0 := by decide +kernel
theorem pwD_clue {g : pH} (hG : g_I eG g) (hx : xL g) (hR : R0 g) (hT : RD g) (x1 x2 : Int32) : pr_ RD 111 177 [.inl x1, .inl x2] 0 false g := by
  unfold pr_
  refine kc_go (k := kk_40) in_k40 rfl (by decide) hG hx (vs := [pvR 0, .inl x1, .inl x2]) (xs := [cv (pvR 0), x1.toInt, x2.toInt]) ⟨by decide, ⟨⟨pvR 0, rfl, rfl, rfl, ok_0⟩, ⟨.inl x1, rfl, rfl, rfl, ok_full32 _⟩, ⟨.inl x2, rfl, rfl, rfl, ok_full32 _⟩, trivial⟩, trivial, fun c hc => by cases hc⟩ rfl (n := 0) (by decide +kernel) (fun v1 g1 c1 G1 X1 M1 => ⟨v1, rfl, c1, ?_⟩)
  have Q1 := RD_f M1 md9_38 hT
  exact kc_go (k := kk_41) in_k41 rfl (by decide) G1 X1 (vs := [pvR 196, .inl x1, .inl x2]) (xs := [cv (pvR 196), x1.toInt, x2.toInt]) ⟨by decide, ⟨⟨pvR 196, rfl, rfl, rfl, ok_this⟩, ⟨.inl x1, rfl, rfl, rfl, ok_full32 _⟩, ⟨.inl x2, rfl, rfl, rfl, ok_full32 _⟩, trivial⟩, trivial, fun c hc => by cases hc⟩ rfl (n := 0) (by decide +kernel) (fun v2 g2 c2 G2 X2 M2 => ⟨v2, rfl, c2, G2, X2, RD_f M2 md9_39 Q1, fun z => by cases z⟩)
theorem md9_40 : kk_42.2.2.2.1 &&& mD9 = 0 := by decide +kernel
theorem md9_41 : Ws &&& mD9 = 0 := by decide +kernel
theorem pwD_spilt {g : pH} (hG : g_I eG g) (hx : xL g) (hR : R0 g) (hT : RD g) (x1 x2 : Int32) : pr_ RD 149 254 [.inl x1, .inl x2] 1 false g := by
  unfold pr_
  refine kc_go (k := kk_42) in_k42 rfl (by decide) hG hx (vs := [pvR 0, .inl x1, .inl x2]) (xs := [cv (pvR 0), x1.toInt, x2.toInt]) ⟨by decide, ⟨⟨pvR 0, rfl, rfl, rfl, ok_0⟩, ⟨.inl x1, rfl, rfl, rfl, ok_full32 _⟩, ⟨.inl x2, rfl, rfl, rfl, ok_full32 _⟩, trivial⟩, trivial, fun c hc => by cases hc⟩ rfl (n := 1) (by decide +kernel) (fun v1 g1 c1 G1 X1 M1 => ⟨v1, rfl, c1, ?_⟩)
  have Q1 := RD_f M1 md9_40 hT
  exact sp9_run (n := x1.toInt) (w := x2.toInt) (by decide) G1 (i32_b _) (i32_b _) (fun z2 g2 v2 J2 t2 => ⟨_, rfl, rfl, J2.1, xL_K _ _ _ J2.2 Ws_1.2.1 X1, RD_f J2.2 md9_41 Q1, fun z => by cases z⟩) (fun v2 z2 => ⟨_, rfl, rfl, G1, X1, Q1, fun z => by cases z⟩) rfl (congrArg some (oI_r x1)) (congrArg some (oI_r x2))
theorem md9_42 : kk_43.2.2.2.1 &&& mD9 = 0 := by decide +kernel
theorem pwD_says {g : pH} (hG : g_I eG g) (hx : xL g) (hR : R0 g) (hT : RD g) (x1 x2 x3 x4 : Int32) : pr_ RD 142 243 [.inl x1, .inl x2, .inl x3, .inl x4] 1 false g := by
  unfold pr_
  refine kc_go (k := kk_43) in_k43 rfl (by decide) hG hx (vs := [pvR 0, .inl x1, .inl x2, .inl x3, .inl x4]) (xs := [cv (pvR 0), x1.toInt, x2.toInt, x3.toInt, x4.toInt]) ⟨by decide, ⟨⟨pvR 0, rfl, rfl, rfl, ok_0⟩, ⟨.inl x1, rfl, rfl, rfl, ok_full32 _⟩, ⟨.inl x2, rfl, rfl, rfl, ok_full32 _⟩, ⟨.inl x3, rfl, rfl, rfl, ok_full32 _⟩, ⟨.inl x4, rfl, rfl, rfl, ok_full32 _⟩, trivial⟩, trivial, fun c hc => by cases hc⟩ rfl (n := 1) (by decide +kernel) (fun v1 g1 c1 G1 X1 M1 => ⟨v1, rfl, c1, ?_⟩)
  have Q1 := RD_f M1 md9_42 hT
  exact sy9_run (n := x1.toInt) (i := x2.toInt) (j := x3.toInt) (w := x4.toInt) (by decide) G1 (i32_b _) (i32_b _) (i32_b _) (i32_b _) (fun z2 g2 v2 J2 t2 => ⟨_, rfl, rfl, J2.1, xL_K _ _ _ J2.2 Ws_1.2.1 X1, RD_f J2.2 md9_41 Q1, fun z => by cases z⟩) (fun v2 z2 => ⟨_, rfl, rfl, G1, X1, Q1, fun z => by cases z⟩) rfl (congrArg some (oI_r x1)) (congrArg some (oI_r x2)) (congrArg some (oI_r x3)) (congrArg some (oI_r x4))
theorem md9_43 : kk_44.2.2.2.1 &&& mD9 = 0 := by decide +kernel
theorem md9_44 : kk_45.2.2.2.1 &&& mD9 = 0 := by decide +kernel
theorem pwD_shadow {g : pH} (hG : g_I eG g) (hx : xL g) (hR : R0 g) (hT : RD g) (x1 x2 x3 : Int32) : pr_ RD 145 246 [.inl x1, .inl x2, .inl x3] 0 false g := by
  unfold pr_
  refine kc_go (k := kk_44) in_k44 rfl (by decide) hG hx (vs := [pvR 0, .inl x1, .inl x2, .inl x3]) (xs := [cv (pvR 0), x1.toInt, x2.toInt, x3.toInt]) ⟨by decide, ⟨⟨pvR 0, rfl, rfl, rfl, ok_0⟩, ⟨.inl x1, rfl, rfl, rfl, ok_full32 _⟩, ⟨.inl x2, rfl, rfl, rfl, ok_full32 _⟩, ⟨.inl x3, rfl, rfl, rfl, ok_full32 _⟩, trivial⟩, trivial, fun c hc => by cases hc⟩ rfl (n := 0) (by decide +kernel) (fun v1 g1 c1 G1 X1 M1 => ⟨v1, rfl, c1, ?_⟩)
  have Q1 := RD_f M1 md9_43 hT
  exact kc_go (k := kk_45) in_k45 rfl (by decide) G1 X1 (vs := [pvR 196, .inl x1, .inl x2, .inl x3]) (xs := [cv (pvR 196), x1.toInt, x2.toInt, x3.toInt]) ⟨by decide, ⟨⟨pvR 196, rfl, rfl, rfl, ok_this⟩, ⟨.inl x1, rfl, rfl, rfl, ok_full32 _⟩, ⟨.inl x2, rfl, rfl, rfl, ok_full32 _⟩, ⟨.inl x3, rfl, rfl, rfl, ok_full32 _⟩, trivial⟩, trivial, fun c hc => by cases hc⟩ rfl (n := 0) (by decide +kernel) (fun v2 g2 c2 G2 X2 M2 => ⟨v2, rfl, c2, G2, X2, RD_f M2 md9_44 Q1, fun z => by cases z⟩)
theorem md9_45 : kk_46.2.2.2.1 &&& mD9 = 0 := by decide +kernel
theorem md9_46 : kk_47.2.2.2.1 &&& mD9 = 0 := by decide +kernel
theorem pwD_link {g : pH} (hG : g_I eG g) (hx : xL g) (hR : R0 g) (hT : RD g) (x1 x2 : Int32) : pr_ RD 133 220 [.inl x1, .inl x2] 0 false g := by
  unfold pr_
  refine kc_go (k := kk_46) in_k46 rfl (by decide) hG hx (vs := [pvR 0, .inl x1, .inl x2]) (xs := [cv (pvR 0), x1.toInt, x2.toInt]) ⟨by decide, ⟨⟨pvR 0, rfl, rfl, rfl, ok_0⟩, ⟨.inl x1, rfl, rfl, rfl, ok_full32 _⟩, ⟨.inl x2, rfl, rfl, rfl, ok_full32 _⟩, trivial⟩, trivial, fun c hc => by cases hc⟩ rfl (n := 0) (by decide +kernel) (fun v1 g1 c1 G1 X1 M1 => ⟨v1, rfl, c1, ?_⟩)
  have Q1 := RD_f M1 md9_45 hT
  exact kc_go (k := kk_47) in_k47 rfl (by decide) G1 X1 (vs := [pvR 196, .inl x1, .inl x2]) (xs := [cv (pvR 196), x1.toInt, x2.toInt]) ⟨by decide, ⟨⟨pvR 196, rfl, rfl, rfl, ok_this⟩, ⟨.inl x1, rfl, rfl, rfl, ok_full32 _⟩, ⟨.inl x2, rfl, rfl, rfl, ok_full32 _⟩, trivial⟩, trivial, fun c hc => by cases hc⟩ rfl (n := 0) (by decide +kernel) (fun v2 g2 c2 G2 X2 M2 => ⟨v2, rfl, c2, G2, X2, RD_f M2 md9_46 Q1, fun z => by cases z⟩)
theorem md9_47 : kk_48.2.2.2.1 &&& mD9 = 0 := by decide +kernel
theorem md9_48 : kk_49.2.2.2.1 &&& mD9 = 0 := by decide +kernel
theorem pwD_leftOut {g : pH} (hG : g_I eG g) (hx : xL g) (hR : R0 g) (hT : RD g) (x1 x2 : Int32) : pr_ RD 131 218 [.inl x1, .inl x2] 0 false g := by
  unfold pr_
  refine kc_go (k := kk_48) in_k48 rfl (by decide) hG hx (vs := [pvR 0, .inl x1, .inl x2]) (xs := [cv (pvR 0), x1.toInt, x2.toInt]) ⟨by decide, ⟨⟨pvR 0, rfl, rfl, rfl, ok_0⟩, ⟨.inl x1, rfl, rfl, rfl, ok_full32 _⟩, ⟨.inl x2, rfl, rfl, rfl, ok_full32 _⟩, trivial⟩, trivial, fun c hc => by cases hc⟩ rfl (n := 0) (by decide +kernel) (fun v1 g1 c1 G1 X1 M1 => ⟨v1, rfl, c1, ?_⟩)
  have Q1 := RD_f M1 md9_47 hT
  exact kc_go (k := kk_49) in_k49 rfl (by decide) G1 X1 (vs := [pvR 196, .inl x1, .inl x2]) (xs := [cv (pvR 196), x1.toInt, x2.toInt]) ⟨by decide, ⟨⟨pvR 196, rfl, rfl, rfl, ok_this⟩, ⟨.inl x1, rfl, rfl, rfl, ok_full32 _⟩, ⟨.inl x2, rfl, rfl, rfl, ok_full32 _⟩, trivial⟩, trivial, fun c hc => by cases hc⟩ rfl (n := 0) (by decide +kernel) (fun v2 g2 c2 G2 X2 M2 => ⟨v2, rfl, c2, G2, X2, RD_f M2 md9_48 Q1, fun z => by cases z⟩)
theorem md9_49 : kk_50.2.2.2.1 &&& mD9 = 0 := by decide +kernel
theorem md9_50 : kk_51.2.2.2.1 &&& mD9 = 0 := by decide +kernel
theorem pwD_lamp {g : pH} (hG : g_I eG g) (hx : xL g) (hR : R0 g) (hT : RD g) (x1 x2 x3 : Int32) : pr_ RD 127 210 [.inl x1, .inl x2, .inl x3] 1 false g := by
  unfold pr_
  refine kc_go (k := kk_50) in_k50 rfl (by decide) hG hx (vs := [pvR 0, .inl x1, .inl x2, .inl x3]) (xs := [cv (pvR 0), x1.toInt, x2.toInt, x3.toInt]) ⟨by decide, ⟨⟨pvR 0, rfl, rfl, rfl, ok_0⟩, ⟨.inl x1, rfl, rfl, rfl, ok_full32 _⟩, ⟨.inl x2, rfl, rfl, rfl, ok_full32 _⟩, ⟨.inl x3, rfl, rfl, rfl, ok_full32 _⟩, trivial⟩, trivial, fun c hc => by cases hc⟩ rfl (n := 1) (by decide +kernel) (fun v1 g1 c1 G1 X1 M1 => ⟨v1, rfl, c1, ?_⟩)
  have Q1 := RD_f M1 md9_49 hT
  exact kc_go (k := kk_51) in_k51 rfl (by decide) G1 X1 (vs := [pvR 196, .inl x1, .inl x2, .inl x3]) (xs := [cv (pvR 196), x1.toInt, x2.toInt, x3.toInt]) ⟨by decide, ⟨⟨pvR 196, rfl, rfl, rfl, ok_this⟩, ⟨.inl x1, rfl, rfl, rfl, ok_full32 _⟩, ⟨.inl x2, rfl, rfl, rfl, ok_full32 _⟩, ⟨.inl x3, rfl, rfl, rfl, ok_full32 _⟩, trivial⟩, trivial, fun c hc => by cases hc⟩ rfl (n := 1) (by decide +kernel) (fun v2 g2 c2 G2 X2 M2 => ⟨v2, rfl, c2, G2, X2, RD_f M2 md9_50 Q1, fun z => by cases z⟩)
theorem md9_51 : kk_52.2.2.2.1 &&& mD9 = 0 := by decide +kernel
theorem md9_52 : kk_53.2.2.2.1 &&& mD9 = 0 := by decide +kernel
theorem pwD_hand {g : pH} (hG : g_I eG g) (hx : xL g) (hR : R0 g) (hT : RD g) (x1 : Int32) : pr_ RD 121 195 [.inl x1] 1 false g := by
  unfold pr_
  refine kc_go (k := kk_52) in_k52 rfl (by decide) hG hx (vs := [pvR 0, .inl x1]) (xs := [cv (pvR 0), x1.toInt]) ⟨by decide, ⟨⟨pvR 0, rfl, rfl, rfl, ok_0⟩, ⟨.inl x1, rfl, rfl, rfl, ok_full32 _⟩, trivial⟩, trivial, fun c hc => by cases hc⟩ rfl (n := 1) (by decide +kernel) (fun v1 g1 c1 G1 X1 M1 => ⟨v1, rfl, c1, ?_⟩)
  have Q1 := RD_f M1 md9_51 hT
  exact kc_go (k := kk_53) in_k53 rfl (by decide) G1 X1 (vs := [pvR 196, .inl x1]) (xs := [cv (pvR 196), x1.toInt]) ⟨by decide, ⟨⟨pvR 196, rfl, rfl, rfl, ok_this⟩, ⟨.inl x1, rfl, rfl, rfl, ok_full32 _⟩, trivial⟩, trivial, fun c hc => by cases hc⟩ rfl (n := 1) (by decide +kernel) (fun v2 g2 c2 G2 X2 M2 => ⟨v2, rfl, c2, G2, X2, RD_f M2 md9_52 Q1, fun z => by cases z⟩)
theorem md9_53 : kk_54.2.2.2.1 &&& mD9 = 0 := by decide +kernel
theorem md9_54 : Wp &&& mD9 = 0 := by decide +kernel
theorem pwD_putIn {g : pH} (hG : g_I eG g) (hx : xL g) (hR : R0 g) (hT : RD g) : pr_ RD 140 232 [] 0 false g := by
  unfold pr_
  refine kc_go (k := kk_54) in_k54 rfl (by decide) hG hx (vs := [pvR 0]) (xs := [cv (pvR 0)]) ⟨by decide, ⟨⟨pvR 0, rfl, rfl, rfl, ok_0⟩, trivial⟩, trivial, fun c hc => by cases hc⟩ rfl (n := 0) (by decide +kernel) (fun v1 g1 c1 G1 X1 M1 => ⟨v1, rfl, c1, ?_⟩)
  have Q1 := RD_f M1 md9_53 hT
  exact pi_run (by decide) (by decide) G1 X1 (fun g2 z2 J2 => ⟨_, rfl, rfl, J2.1, xL_K _ _ _ J2.2 Wp_1.2.2.1 X1, RD_f J2.2 md9_54 Q1, fun z => by cases z⟩) rfl
theorem md9_55 : kk_55.2.2.2.1 &&& mD9 = 0 := by decide +kernel
theorem md9_56 : kk_56.2.2.2.1 &&& mD9 = 0 := by decide +kernel
theorem pwD_seed {g : pH} (hG : g_I eG g) (hx : xL g) (hR : R0 g) (hT : RD g) (x1 : Int32) : pr_ RD 144 245 [.inl x1] 0 false g := by
  unfold pr_
  refine kc_go (k := kk_55) in_k55 rfl (by decide) hG hx (vs := [pvR 0, .inl x1]) (xs := [cv (pvR 0), x1.toInt]) ⟨by decide, ⟨⟨pvR 0, rfl, rfl, rfl, ok_0⟩, ⟨.inl x1, rfl, rfl, rfl, ok_full32 _⟩, trivial⟩, trivial, fun c hc => by cases hc⟩ rfl (n := 0) (by decide +kernel) (fun v1 g1 c1 G1 X1 M1 => ⟨v1, rfl, c1, ?_⟩)
  have Q1 := RD_f M1 md9_55 hT
  exact kc_go (k := kk_56) in_k56 rfl (by decide) G1 X1 (vs := [pvR 196, .inl x1]) (xs := [cv (pvR 196), x1.toInt]) ⟨by decide, ⟨⟨pvR 196, rfl, rfl, rfl, ok_this⟩, ⟨.inl x1, rfl, rfl, rfl, ok_full32 _⟩, trivial⟩, trivial, fun c hc => by cases hc⟩ rfl (n := 0) (by decide +kernel) (fun v2 g2 c2 G2 X2 M2 => ⟨v2, rfl, c2, G2, X2, RD_f M2 md9_56 Q1, fun z => by cases z⟩)
theorem md9_57 : kk_61.2.2.2.1 &&& mD9 = 0 := by decide +kernel
theorem md9_58 : kk_62.2.2.2.1 &&& mD9 = 0 := by decide +kernel
theorem pwD_check {g : pH} (hG : g_I eG g) (hx : xL g) (hR : R0 g) (hT : RD g) (x1 x2 : Int32) : pr_ RD 110 174 [.inl x1, .inl x2] 0 false g := by
  unfold pr_
  refine kc_go (k := kk_61) in_k61 rfl (by decide) hG hx (vs := [pvR 0, .inl x1, .inl x2]) (xs := [cv (pvR 0), x1.toInt, x2.toInt]) ⟨by decide, ⟨⟨pvR 0, rfl, rfl, rfl, ok_0⟩, ⟨.inl x1, rfl, rfl, rfl, ok_full32 _⟩, ⟨.inl x2, rfl, rfl, rfl, ok_full32 _⟩, trivial⟩, trivial, fun c hc => by cases hc⟩ rfl (n := 0) (by decide +kernel) (fun v1 g1 c1 G1 X1 M1 => ⟨v1, rfl, c1, ?_⟩)
  have Q1 := RD_f M1 md9_57 hT
  exact kc_go (k := kk_62) in_k62 rfl (by decide) G1 X1 (vs := [pvR 196, .inl x1, .inl x2]) (xs := [cv (pvR 196), x1.toInt, x2.toInt]) ⟨by decide, ⟨⟨pvR 196, rfl, rfl, rfl, ok_this⟩, ⟨.inl x1, rfl, rfl, rfl, ok_full32 _⟩, ⟨.inl x2, rfl, rfl, rfl, ok_full32 _⟩, trivial⟩, trivial, fun c hc => by cases hc⟩ rfl (n := 0) (by decide +kernel) (fun v2 g2 c2 G2 X2 M2 => ⟨v2, rfl, c2, G2, X2, RD_f M2 md9_58 Q1, fun z => by cases z⟩)
theorem md9_59 : kk_63.2.2.2.1 &&& mD9 = 0 := by decide +kernel
theorem md9_60 : kk_64.2.2.2.1 &&& mD9 = 0 := by decide +kernel
theorem pwD_count {g : pH} (hG : g_I eG g) (hx : xL g) (hR : R0 g) (hT : RD g) (x1 : Int32) : pr_ RD 115 182 [.inl x1] 0 false g := by
  unfold pr_
  refine kc_go (k := kk_63) in_k63 rfl (by decide) hG hx (vs := [pvR 0, .inl x1]) (xs := [cv (pvR 0), x1.toInt]) ⟨by decide, ⟨⟨pvR 0, rfl, rfl, rfl, ok_0⟩, ⟨.inl x1, rfl, rfl, rfl, ok_full32 _⟩, trivial⟩, trivial, fun c hc => by cases hc⟩ rfl (n := 0) (by decide +kernel) (fun v1 g1 c1 G1 X1 M1 => ⟨v1, rfl, c1, ?_⟩)
  have Q1 := RD_f M1 md9_59 hT
  exact kc_go (k := kk_64) in_k64 rfl (by decide) G1 X1 (vs := [pvR 196, .inl x1]) (xs := [cv (pvR 196), x1.toInt]) ⟨by decide, ⟨⟨pvR 196, rfl, rfl, rfl, ok_this⟩, ⟨.inl x1, rfl, rfl, rfl, ok_full32 _⟩, trivial⟩, trivial, fun c hc => by cases hc⟩ rfl (n := 0) (by decide +kernel) (fun v2 g2 c2 G2 X2 M2 => ⟨v2, rfl, c2, G2, X2, RD_f M2 md9_60 Q1, fun z => by cases z⟩)
theorem bD_s : (∀ m, m < 32 → ∀ j, j < 32 → (j ≠ m → nBb (WT m) 4 j = true) ∧ nBb (WT m) 78 j = true) ∧ (∀ m, m < 32 → aBs (WT m) = true ∧ aBk (WT m) = true ∧ (WT m).testBit (cn 211) = false ∧ (WT m).testBit (cn 196 + 49) = false) ∧ (∀ j, j < 32 → nBb kk_3.2.2.2.1 4 j = true ∧ nBb kk_3.2.2.2.1 78 j = true) ∧ aBk kk_3.2.2.2.1 = true ∧ kk_3.2.2.2.1.testBit (cn 196 + 49) = false := by decide +kernel
theorem cF_p {g : pH} {v : Int32} {k y : Nat} (hk : 0 < k) : cF (pu g.1 0 1 v, g.2) k y = cF g k y := pc_ne (by omega)
theorem RD_3 {g g1 : pH} (hM : f_M kk_3.2.2.2.1 g g1) (hA : ∀ K, fA g1 K = fA g K) (h : RD g) : RD g1 := by
  obtain ⟨-, -, b3, -, b5⟩ := bD_s
  refine RD_e (fun b m y hb h1 h2 hm => ?_) (cF_M hM b5) hA h
  rcases hb with rfl | rfl
  · obtain ⟨e3, e4, e5, e6, -⟩ := nB_x (b3 m hm).1
    rcases (show y = 3 ∨ y = 4 ∨ y = 5 ∨ y = 6 by omega) with rfl | rfl | rfl | rfl
    · exact cF_M hM e3
    · exact cF_M hM e4
    · exact cF_M hM e5
    · exact cF_M hM e6
  · obtain ⟨e3, e4, e5, e6, -⟩ := nB_x (b3 m hm).2
    rcases (show y = 3 ∨ y = 4 ∨ y = 5 ∨ y = 6 by omega) with rfl | rfl | rfl | rfl
    · exact cF_M hM e3
    · exact cF_M hM e4
    · exact cF_M hM e5
    · exact cF_M hM e6
theorem psD_slide {g : pH} (hG : g_I eG g) (hx : xL g) (hR : R0 g) (hT : RD g) (x1 x2 x3 x4 : Int32) : t_X 99 147 0 (px_ar 0 [pvR 0, .inl x1, .inl x2, .inl x3, .inl x4]) [] g (fun o => ∃ v, o.1 = some v ∧ t_X 99 251 0 (px_ar 0 [pvR 196, .inl x1, .inl x2, .inl x3, .inl x4]) [] o.2 (fun o2 => ∃ w, o2.1 = some w ∧ (v = w → RD o2.2))) := by
  obtain ⟨bw, ba, b3, b4, b5⟩ := bD_s
  have rej : ∀ g1 : pH, g_I eG g1 → xL g1 → RD g1 → ∃ v, some (oI 0) = some v ∧ t_X 99 251 0 (px_ar 0 [pvR 196, .inl x1, .inl x2, .inl x3, .inl x4]) [] g1 (fun o2 => ∃ w, o2.1 = some w ∧ (v = w → RD o2.2)) := fun g1 G1 X1 Q1 => by
    refine ⟨_, rfl, vms_run (i := x1.toInt) (a := x2.toInt) (b := x3.toInt) (c := x4.toInt) (by decide) (by decide) G1 X1 (i32_b _) (i32_b _) (i32_b _) (i32_b _) (fun m2 hm2 e2 hp2 g2 M2 p1 p2 a1 a2 a3 a4 => ⟨_, rfl, fun z => absurd z (by decide)⟩) (fun g2 M2 eA => ⟨_, rfl, fun _ => RD_3 M2 eA Q1⟩) rfl (congrArg some (oI_r x1)) (congrArg some (oI_r x2)) (congrArg some (oI_r x3)) (congrArg some (oI_r x4))⟩
  refine vsl_run (i := x1.toInt) (a := x2.toInt) (b := x3.toInt) (c := x4.toInt) (by decide) (by decide) hG hx hR.1.1 (i32_b _) (i32_b _) (i32_b _) (i32_b _) (fun m hm e1 c0 hp g1 G1 X1 M1 V1 V2 => ?_) (fun c0 hp g1 G1 X1 E1 => ?_) (fun g1 G1 X1 M1 c0 => ?_) rfl (congrArg some (oI_r x1)) (congrArg some (oI_r x2)) (congrArg some (oI_r x3)) (congrArg some (oI_r x4))
  · refine ⟨_, rfl, vms_run (i := x1.toInt) (a := x2.toInt) (b := x3.toInt) (c := x4.toInt) (by decide) (by decide) G1 X1 (i32_b _) (i32_b _) (i32_b _) (i32_b _) (fun m2 hm2 e2 hp2 g2 M2 p1 p2 a1 a2 a3 a4 => ⟨_, rfl, fun _ => ?_⟩) (fun g2 M2 eA => ⟨_, rfl, fun z => absurd z (by decide)⟩) rfl (congrArg some (oI_r x1)) (congrArg some (oI_r x2)) (congrArg some (oI_r x3)) (congrArg some (oI_r x4))⟩
    obtain rfl : m2 = m := by omega
    obtain ⟨b6, b7, b8, b9⟩ := ba m2 hm2
    obtain ⟨⟨r1, r2, r3, r4⟩, r5⟩ := hT
    have as1 := aB_x b6 M1
    have ak1 := aB_x b7 M1
    have ak2 := aB_x b4 M2
    have t1 : fA g1 211 = fA g 211 := fA_M M1 b8
    refine ⟨⟨fun j hj => ?_, fun j hj => ?_, fun k hk => ?_, dRb_e ((ak2 253 (.tail _ (.tail _ (.tail _ (.tail _ (.head _)))))).trans (ak1 253 (.tail _ (.tail _ (.tail _ (.tail _ (.head _))))))) r4⟩, (cF_M M2 b5).trans ((cF_M M1 b9).trans ((cF_p (by decide)).trans r5))⟩
    · obtain ⟨e3, e4, e5, e6, ep⟩ := nB_x (b3 j hj).1
      by_cases q : j = m2
      · subst q
        refine ⟨⟨(cF_M M2 e3).trans (V1.1.trans ?_), (cF_M M2 e4).trans (V1.2.1.trans ?_), (cF_M M2 e5).trans (V1.2.2.1.trans ?_), (cF_M M2 e6).trans (V1.2.2.2.trans ?_)⟩, fun i hi => ?_⟩
        · rw [a1]; exact (if_pos rfl).symm
        · rw [a2]; exact (if_pos rfl).symm
        · rw [a3]; exact (if_pos rfl).symm
        · rw [a4]; exact (if_pos rfl).symm
        · have h7 := hR.1.2.1 i (by omega)
          have h6 := hp2 i hi
          rw [t1] at h6
          have h5 : fA g 1 i = fA g 211 i := by omega
          exact ((congrFun (fA_M M2 ep) i).trans (V2 i hi)).trans (h5.trans ((congrFun t1 i).symm.trans (p1 i hi).symm))
      · obtain ⟨d3, d4, d5, d6, dp⟩ := nB_x ((bw m2 hm2 j hj).1 q)
        obtain ⟨⟨s3, s4, s5, s6⟩, sp⟩ := r1 j hj
        refine ⟨⟨(cF_M M2 e3).trans ((cF_M M1 d3).trans ((cF_p (by omega)).trans (s3.trans ?_))), (cF_M M2 e4).trans ((cF_M M1 d4).trans ((cF_p (by omega)).trans (s4.trans ?_))), (cF_M M2 e5).trans ((cF_M M1 d5).trans ((cF_p (by omega)).trans (s5.trans ?_))), (cF_M M2 e6).trans ((cF_M M1 d6).trans ((cF_p (by omega)).trans (s6.trans ?_)))⟩, fun i hi => ?_⟩
        · rw [a1]; exact (congrFun (as1 199 (.head _)) j).symm.trans (if_neg q).symm
        · rw [a2]; exact (congrFun (as1 200 (.tail _ (.head _))) j).symm.trans (if_neg q).symm
        · rw [a3]; exact (congrFun (as1 201 (.tail _ (.tail _ (.head _)))) j).symm.trans (if_neg q).symm
        · rw [a4]; exact (congrFun (as1 202 (.tail _ (.tail _ (.tail _ (.head _))))) j).symm.trans (if_neg q).symm
        · rw [p2 _ (by omega)]
          exact ((congrFun (fA_M M2 ep) i).trans (congrFun (fA_M M1 dp) i)).trans ((sp i hi).trans (congrFun (as1 210 (.tail _ (.tail _ (.tail _ (.tail _ (.head _)))))) _).symm)
    · obtain ⟨e3, e4, e5, e6, ep⟩ := nB_x (b3 j hj).2
      obtain ⟨d3, d4, d5, d6, dp⟩ := nB_x (bw m2 hm2 j hj).2
      obtain ⟨⟨s3, s4, s5, s6⟩, sp⟩ := r2 j hj
      have f := fun K hK => (ak2 K hK).trans (ak1 K hK)
      refine ⟨⟨(cF_M M2 e3).trans ((cF_M M1 d3).trans ((cF_p (by omega)).trans (s3.trans (congrFun (f 242 (.head _)) j).symm))), (cF_M M2 e4).trans ((cF_M M1 d4).trans ((cF_p (by omega)).trans (s4.trans (congrFun (f 243 (.tail _ (.head _))) j).symm))), (cF_M M2 e5).trans ((cF_M M1 d5).trans ((cF_p (by omega)).trans (s5.trans (congrFun (f 244 (.tail _ (.tail _ (.head _)))) j).symm))), (cF_M M2 e6).trans ((cF_M M1 d6).trans ((cF_p (by omega)).trans (s6.trans (congrFun (f 245 (.tail _ (.tail _ (.tail _ (.head _))))) j).symm)))⟩, fun i hi => ?_⟩
      rw [f 253 (.tail _ (.tail _ (.tail _ (.tail _ (.head _)))))]
      exact ((congrFun (fA_M M2 ep) i).trans (congrFun (fA_M M1 dp) i)).trans (sp i hi)
    · by_cases q : k < 25 * m2 ∨ 25 * m2 + 25 ≤ k
      · rw [p2 k q, as1 210 (.tail _ (.tail _ (.tail _ (.tail _ (.head _)))))]
        exact r3 k hk
      · have h9 := p1 (k - 25 * m2) (by omega)
        rw [show 25 * m2 + (k - 25 * m2) = k by omega] at h9
        have h8 := hp2 (k - 25 * m2) (by omega)
        rw [h9]
        omega
  · refine rej g1 G1 X1 (RD_e (fun b m y hb _ _ _ => ?_) ?_ (fun K => ?_) hT)
    · rw [E1]; exact cF_p (by omega)
    · rw [E1]; exact cF_p (by omega)
    · exact (congrArg (fun q : pH => fA q K) E1 : fA g1 K = fA (pu g.1 0 1 (Int32.ofInt 0), g.2) K).trans rfl
  · exact rej g1 G1 X1 (RD_f M1 (Nat.zero_and _) hT)
def Wdy (m : Nat) : Nat := 2 ^ (cn (4 + 2 * m) + 6)
theorem bD_d : (∀ m, m < 32 → ∀ j, j < 32 → (j ≠ m → nBb (Wdy m) 4 j = true) ∧ nBb (Wdy m) 78 j = true) ∧ (∀ m, m < 32 → (aBs (Wdy m) = true ∧ aBk (Wdy m) = true ∧ (Wdy m).testBit (cn 196 + 49) = false) ∧ ((Wdy m).testBit (cn (4 + 2 * m) + 3) = false ∧ (Wdy m).testBit (cn (4 + 2 * m) + 4) = false ∧ (Wdy m).testBit (cn (4 + 2 * m) + 5) = false ∧ (Wdy m).testBit (cn (4 + 1 + 2 * m)) = false)) ∧ (∀ j, j < 32 → nBb vWd 4 j = true ∧ nBb vWd 78 j = true) ∧ (aBk vWd = true ∧ [199, 200, 201, 210].all (fun K => !vWd.testBit (cn K)) = true) ∧ vWd.testBit (cn 196 + 49) = false ∧ vWd &&& eDX = 0 := by decide +kernel
theorem psD_day {g : pH} (hG : g_I eG g) (hx : xL g) (hR : R0 g) (hT : RD g) (x1 x2 : Int32) : t_X 99 116 0 (px_ar 0 [pvR 0, .inl x1, .inl x2]) [] g (fun o => ∃ v, o.1 = some v ∧ t_X 99 183 0 (px_ar 0 [pvR 196, .inl x1, .inl x2]) [] o.2 (fun o2 => ∃ w, o2.1 = some w ∧ (v = w → RD o2.2))) := by
  obtain ⟨bw, ba, b3, ⟨b4, b41⟩, b5, -⟩ := bD_d
  refine vdy_run (i := x1.toInt) (b := x2.toInt) (by decide) hG hR.1.1 (i32_b _) (i32_b _) (fun m hm e1 c0 g1 J1 V1 => ?_) (fun c0 => ?_) rfl (congrArg some (oI_r x1)) (congrArg some (oI_r x2))
  · refine ⟨_, rfl, vmd_run (i := x1.toInt) (b := x2.toInt) (by decide) J1.1 (i32_b _) (i32_b _) (fun m2 hm2 e2 c2 g2 hS => ⟨_, rfl, fun _ => ?_⟩) ⟨_, rfl, fun z => absurd z (by decide)⟩ rfl (congrArg some (oI_r x1)) (congrArg some (oI_r x2))⟩
    obtain rfl : m2 = m := by omega
    have M1 : f_M (Wdy m2) g g1 := J1.2
    have M2 : f_M vWd g1 g2 := (S_J hS).2
    have a4 : fA g2 202 = updI (fA g1 202) m2 x2.toInt := S_a hS 0 (Nat.le_of_ble_eq_true rfl)
    obtain ⟨⟨b6, b7, b9⟩, ⟨c3, c4, c5, cp⟩⟩ := ba m2 hm2
    obtain ⟨⟨r1, r2, r3, r4⟩, r5⟩ := hT
    have as1 := aB_x b6 M1
    have as2 := aB_x b41 M2
    have ak1 := aB_x b7 M1
    have ak2 := aB_x b4 M2
    have k9 : fA g2 199 = fA g 199 := (as2 199 (.head _)).trans (as1 199 (.head _))
    have k0 : fA g2 200 = fA g 200 := (as2 200 (.tail _ (.head _))).trans (as1 200 (.tail _ (.head _)))
    have k1 : fA g2 201 = fA g 201 := (as2 201 (.tail _ (.tail _ (.head _)))).trans (as1 201 (.tail _ (.tail _ (.head _))))
    have kp : fA g2 210 = fA g 210 := (as2 210 (.tail _ (.tail _ (.tail _ (.head _))))).trans (as1 210 (.tail _ (.tail _ (.tail _ (.tail _ (.head _))))))
    refine ⟨⟨fun j hj => ?_, fun j hj => dRk_f M2 (b3 j hj).2 ak2 (dRk_f M1 (bw m2 hm2 j hj).2 ak1 (r2 j hj)), dRb_e kp r3, dRb_e ((ak2 253 (.tail _ (.tail _ (.tail _ (.tail _ (.head _)))))).trans (ak1 253 (.tail _ (.tail _ (.tail _ (.tail _ (.head _))))))) r4⟩, (cF_M M2 b5).trans ((cF_M M1 b9).trans r5)⟩
    obtain ⟨e3, e4, e5, e6, ep⟩ := nB_x (b3 j hj).1
    obtain ⟨⟨s3, s4, s5, s6⟩, sp⟩ := r1 j hj
    by_cases q : j = m2
    · subst q
      refine ⟨⟨(cF_M M2 e3).trans ((cF_M M1 c3).trans (s3.trans (congrFun k9 j).symm)), (cF_M M2 e4).trans ((cF_M M1 c4).trans (s4.trans (congrFun k0 j).symm)), (cF_M M2 e5).trans ((cF_M M1 c5).trans (s5.trans (congrFun k1 j).symm)), (cF_M M2 e6).trans (V1.trans ?_)⟩, fun i hi => ?_⟩
      · rw [a4]; exact (if_pos rfl).symm
      · rw [kp]; exact ((congrFun (fA_M M2 ep) i).trans (congrFun (fA_M M1 cp) i)).trans (sp i hi)
    · obtain ⟨d3, d4, d5, d6, dp⟩ := nB_x ((bw m2 hm2 j hj).1 q)
      refine ⟨⟨(cF_M M2 e3).trans ((cF_M M1 d3).trans (s3.trans (congrFun k9 j).symm)), (cF_M M2 e4).trans ((cF_M M1 d4).trans (s4.trans (congrFun k0 j).symm)), (cF_M M2 e5).trans ((cF_M M1 d5).trans (s5.trans (congrFun k1 j).symm)), (cF_M M2 e6).trans ((cF_M M1 d6).trans (s6.trans ?_))⟩, fun i hi => ?_⟩
      · rw [a4]; exact (congrFun (as1 202 (.tail _ (.tail _ (.tail _ (.head _))))) j).symm.trans (if_neg q).symm
      · rw [kp]; exact ((congrFun (fA_M M2 ep) i).trans (congrFun (fA_M M1 dp) i)).trans (sp i hi)
  · exact ⟨_, rfl, vmd_run (i := x1.toInt) (b := x2.toInt) (by decide) hG (i32_b _) (i32_b _) (fun m2 hm2 e2 c2 g2 hS => ⟨_, rfl, fun z => absurd z (by decide)⟩) ⟨_, rfl, fun _ => hT⟩ rfl (congrArg some (oI_r x1)) (congrArg some (oI_r x2))⟩
theorem bD_k : (∀ j, j < 32 → nBb vKW 4 j = true ∧ nBb vKW 78 j = true) ∧ (aBs kk_57.2.2.2.1 = true ∧ aBk kk_57.2.2.2.1 = true ∧ kk_57.2.2.2.1.testBit (cn 196 + 49) = false ∧ kk_57.2.2.2.1.testBit (cn 196 + 72) = false) ∧ aBs vKW = true ∧ vKW.testBit (cn 196 + 49) = false := by decide +kernel
theorem psD_keep {g : pH} (hG : g_I eG g) (hx : xL g) (hR : R0 g) (hT : RD g) : t_X 99 126 0 (px_ar 0 [pvR 0]) [] g (fun o => ∃ v, o.1 = some v ∧ t_X 99 209 0 (px_ar 0 [pvR 196]) [] o.2 (fun o2 => ∃ w, o2.1 = some w ∧ (v = w → RD o2.2))) := by
  obtain ⟨b3, ⟨b6, b7, b8, b82⟩, b4, b5⟩ := bD_k
  obtain ⟨⟨r1, r2, r3, r4⟩, r5⟩ := hT
  refine vck_run (by decide) (by decide) hG hx hR.1.1 (fun v g1 J1 c1 c2 => ?_) rfl
  · refine ⟨_, rfl, qvk_run (by decide) J1.1 (fun k hk => by rw [(aB_x b6 J1.2) 210 (.tail _ (.tail _ (.tail _ (.tail _ (.head _)))))]; exact r3 k hk) (fun w g2 p h9 hS => ⟨_, rfl, fun _ => ?_⟩) rfl⟩
    have M1 : f_M kk_57.2.2.2.1 g g1 := J1.2
    have M2 : f_M vKW g1 g2 := (S_J hS).2
    have t0 := S_a hS 0 (Nat.le_of_ble_eq_true rfl)
    have t1 := S_a hS 1 (Nat.le_of_ble_eq_true rfl)
    have t2 := S_a hS 2 (Nat.le_of_ble_eq_true rfl)
    have t3 := S_a hS 3 (Nat.le_of_ble_eq_true rfl)
    have tp : fA g2 253 = p := S_a hS 4 (Nat.le_of_ble_eq_true rfl)
    have as1 := aB_x b6 M1
    have ak1 := aB_x b7 M1
    have sr2 := aB_x b4 M2
    have sr : ∀ K, K ∈ ([199, 200, 201, 202, 210] : List Nat) → fA g2 K = fA g K := fun K hK => (sr2 K hK).trans (as1 K hK)
    have u0 : ∀ j, j < 32 → fA g2 242 j = fA g 199 j := fun j hj => (congrFun (show fA g2 242 = (fun k : Nat => if k < 32 then fA g1 199 k else fA g1 242 k) from t0) j).trans ((if_pos hj).trans (congrFun (as1 199 (.head _)) j))
    have u1 : ∀ j, j < 32 → fA g2 243 j = fA g 200 j := fun j hj => (congrFun (show fA g2 243 = (fun k : Nat => if k < 32 then fA g1 200 k else fA g1 243 k) from t1) j).trans ((if_pos hj).trans (congrFun (as1 200 (.tail _ (.head _))) j))
    have u2 : ∀ j, j < 32 → fA g2 244 j = fA g 201 j := fun j hj => (congrFun (show fA g2 244 = (fun k : Nat => if k < 32 then fA g1 201 k else fA g1 244 k) from t2) j).trans ((if_pos hj).trans (congrFun (as1 201 (.tail _ (.tail _ (.head _)))) j))
    have u3 : ∀ j, j < 32 → fA g2 245 j = fA g 202 j := fun j hj => (congrFun (show fA g2 245 = (fun k : Nat => if k < 32 then fA g1 202 k else fA g1 245 k) from t3) j).trans ((if_pos hj).trans (congrFun (as1 202 (.tail _ (.tail _ (.tail _ (.head _))))) j))
    have up : ∀ k, k < 800 → fA g2 253 k = fA g 210 k := fun k hk => (congrFun tp k).trans ((h9 k hk).trans (congrFun (as1 210 (.tail _ (.tail _ (.tail _ (.tail _ (.head _)))))) k))
    have dst : ∀ j, j < 32 → dRk g2 j := fun j hj => by
      obtain ⟨e3, e4, e5, e6, ep⟩ := nB_x (b3 j hj).2
      obtain ⟨⟨x3, x4, x5, x6⟩, xp⟩ := c1 j hj
      obtain ⟨⟨s3, s4, s5, s6⟩, sp⟩ := r1 j hj
      exact ⟨⟨(cF_M M2 e3).trans (x3.trans (s3.trans (u0 j hj).symm)), (cF_M M2 e4).trans (x4.trans (s4.trans (u1 j hj).symm)), (cF_M M2 e5).trans (x5.trans (s5.trans (u2 j hj).symm)), (cF_M M2 e6).trans (x6.trans (s6.trans (u3 j hj).symm))⟩, fun i hi => (congrFun (fA_M M2 ep) i).trans ((xp i hi).trans ((sp i hi).trans (up _ (by omega)).symm))⟩
    have src : ∀ j, j < 32 → dRs g2 j := fun j hj => by
      obtain ⟨e3, e4, e5, e6, ep⟩ := nB_x (b3 j hj).1
      obtain ⟨⟨x3, x4, x5, x6⟩, xp⟩ := c2 j hj
      obtain ⟨⟨s3, s4, s5, s6⟩, sp⟩ := r1 j hj
      refine ⟨⟨(cF_M M2 e3).trans (x3.trans (s3.trans (congrFun (sr 199 (.head _)) j).symm)), (cF_M M2 e4).trans (x4.trans (s4.trans (congrFun (sr 200 (.tail _ (.head _))) j).symm)), (cF_M M2 e5).trans (x5.trans (s5.trans (congrFun (sr 201 (.tail _ (.tail _ (.head _)))) j).symm)), (cF_M M2 e6).trans (x6.trans (s6.trans (congrFun (sr 202 (.tail _ (.tail _ (.tail _ (.head _))))) j).symm))⟩, fun i hi => ?_⟩
      rw [sr 210 (.tail _ (.tail _ (.tail _ (.tail _ (.head _)))))]
      exact (congrFun (fA_M M2 ep) i).trans ((xp i hi).trans (sp i hi))
    have bT : dRb g2 253 := fun k hk => by
      rw [up k hk]
      exact r3 k hk
    have bS : dRb g2 210 := dRb_e (sr 210 (.tail _ (.tail _ (.tail _ (.tail _ (.head _)))))) r3
    exact ⟨⟨src, dst, bS, bT⟩, (cF_M M2 b5).trans ((cF_M M1 b8).trans r5)⟩
theorem bD_u : (∀ j, j < 32 → nBb vUW 4 j = true ∧ nBb vUW 78 j = true) ∧ (aBs kk_59.2.2.2.1 = true ∧ aBk kk_59.2.2.2.1 = true ∧ kk_59.2.2.2.1.testBit (cn 196 + 49) = false ∧ kk_59.2.2.2.1.testBit (cn 196 + 72) = false) ∧ aBk vUW = true ∧ vUW.testBit (cn 196 + 49) = false := by decide +kernel
theorem psD_undo {g : pH} (hG : g_I eG g) (hx : xL g) (hR : R0 g) (hT : RD g) : t_X 99 160 0 (px_ar 0 [pvR 0]) [] g (fun o => ∃ v, o.1 = some v ∧ t_X 99 270 0 (px_ar 0 [pvR 196]) [] o.2 (fun o2 => ∃ w, o2.1 = some w ∧ (v = w → RD o2.2))) := by
  obtain ⟨b3, ⟨b6, b7, b8, b82⟩, b4, b5⟩ := bD_u
  obtain ⟨⟨r1, r2, r3, r4⟩, r5⟩ := hT
  have e7 := hR.1.2.2.2.2
  refine vcu_run (by decide) (by decide) hG hx hR.1.1 (fun v g1 z0 J1 c1 c2 => ?_) (fun z0 => ?_) rfl
  · refine ⟨_, rfl, qvu_run (by decide) J1.1 (fun k hk => by rw [(aB_x b7 J1.2) 253 (.tail _ (.tail _ (.tail _ (.tail _ (.head _)))))]; exact r4 k hk) (fun w g2 p z1 h9 hS => ⟨_, rfl, fun _ => ?_⟩) (fun z1 => absurd (((e7.trans (cF_M J1.2 b82).symm)).trans z1) z0) rfl⟩
    have M1 : f_M kk_59.2.2.2.1 g g1 := J1.2
    have M2 : f_M vUW g1 g2 := (S_J hS).2
    have t0 := S_a hS 0 (Nat.le_of_ble_eq_true rfl)
    have t1 := S_a hS 1 (Nat.le_of_ble_eq_true rfl)
    have t2 := S_a hS 2 (Nat.le_of_ble_eq_true rfl)
    have t3 := S_a hS 3 (Nat.le_of_ble_eq_true rfl)
    have tp : fA g2 210 = p := S_a hS 4 (Nat.le_of_ble_eq_true rfl)
    have as1 := aB_x b6 M1
    have ak1 := aB_x b7 M1
    have sr2 := aB_x b4 M2
    have sr : ∀ K, K ∈ ([242, 243, 244, 245, 253] : List Nat) → fA g2 K = fA g K := fun K hK => (sr2 K hK).trans (ak1 K hK)
    have u0 : ∀ j, j < 32 → fA g2 199 j = fA g 242 j := fun j hj => (congrFun (show fA g2 199 = (fun k : Nat => if k < 32 then fA g1 242 k else fA g1 199 k) from t0) j).trans ((if_pos hj).trans (congrFun (ak1 242 (.head _)) j))
    have u1 : ∀ j, j < 32 → fA g2 200 j = fA g 243 j := fun j hj => (congrFun (show fA g2 200 = (fun k : Nat => if k < 32 then fA g1 243 k else fA g1 200 k) from t1) j).trans ((if_pos hj).trans (congrFun (ak1 243 (.tail _ (.head _))) j))
    have u2 : ∀ j, j < 32 → fA g2 201 j = fA g 244 j := fun j hj => (congrFun (show fA g2 201 = (fun k : Nat => if k < 32 then fA g1 244 k else fA g1 201 k) from t2) j).trans ((if_pos hj).trans (congrFun (ak1 244 (.tail _ (.tail _ (.head _)))) j))
    have u3 : ∀ j, j < 32 → fA g2 202 j = fA g 245 j := fun j hj => (congrFun (show fA g2 202 = (fun k : Nat => if k < 32 then fA g1 245 k else fA g1 202 k) from t3) j).trans ((if_pos hj).trans (congrFun (ak1 245 (.tail _ (.tail _ (.tail _ (.head _))))) j))
    have up : ∀ k, k < 800 → fA g2 210 k = fA g 253 k := fun k hk => (congrFun tp k).trans ((h9 k hk).trans (congrFun (ak1 253 (.tail _ (.tail _ (.tail _ (.tail _ (.head _)))))) k))
    have dst : ∀ j, j < 32 → dRs g2 j := fun j hj => by
      obtain ⟨e3, e4, e5, e6, ep⟩ := nB_x (b3 j hj).1
      obtain ⟨⟨x3, x4, x5, x6⟩, xp⟩ := c1 j hj
      obtain ⟨⟨s3, s4, s5, s6⟩, sp⟩ := r2 j hj
      exact ⟨⟨(cF_M M2 e3).trans (x3.trans (s3.trans (u0 j hj).symm)), (cF_M M2 e4).trans (x4.trans (s4.trans (u1 j hj).symm)), (cF_M M2 e5).trans (x5.trans (s5.trans (u2 j hj).symm)), (cF_M M2 e6).trans (x6.trans (s6.trans (u3 j hj).symm))⟩, fun i hi => (congrFun (fA_M M2 ep) i).trans ((xp i hi).trans ((sp i hi).trans (up _ (by omega)).symm))⟩
    have src : ∀ j, j < 32 → dRk g2 j := fun j hj => by
      obtain ⟨e3, e4, e5, e6, ep⟩ := nB_x (b3 j hj).2
      obtain ⟨⟨x3, x4, x5, x6⟩, xp⟩ := c2 j hj
      obtain ⟨⟨s3, s4, s5, s6⟩, sp⟩ := r2 j hj
      refine ⟨⟨(cF_M M2 e3).trans (x3.trans (s3.trans (congrFun (sr 242 (.head _)) j).symm)), (cF_M M2 e4).trans (x4.trans (s4.trans (congrFun (sr 243 (.tail _ (.head _))) j).symm)), (cF_M M2 e5).trans (x5.trans (s5.trans (congrFun (sr 244 (.tail _ (.tail _ (.head _)))) j).symm)), (cF_M M2 e6).trans (x6.trans (s6.trans (congrFun (sr 245 (.tail _ (.tail _ (.tail _ (.head _))))) j).symm))⟩, fun i hi => ?_⟩
      rw [sr 253 (.tail _ (.tail _ (.tail _ (.tail _ (.head _)))))]
      exact (congrFun (fA_M M2 ep) i).trans ((xp i hi).trans (sp i hi))
    have bT : dRb g2 210 := fun k hk => by
      rw [up k hk]
      exact r4 k hk
    have bS : dRb g2 253 := dRb_e (sr 253 (.tail _ (.tail _ (.tail _ (.tail _ (.head _)))))) r4
    exact ⟨⟨dst, src, bT, bS⟩, (cF_M M2 b5).trans ((cF_M M1 b8).trans r5)⟩
  · exact ⟨_, rfl, qvu_run (by decide) hG r4 (fun w g2 p z1 h9 hS => absurd (e7.symm.trans z0) z1) (fun z1 => ⟨_, rfl, fun _ => ⟨⟨r1, r2, r3, r4⟩, r5⟩⟩) rfl⟩
theorem p17_feed {g : pH} (hG : g_I eG g) (hx : xL g) (hR : R17 g) (x1 x2 x3 x4 x5 : Int32) : pr_ R17 119 189 [.inl x1, .inl x2, .inl x3, .inl x4, .inl x5] 0 true g := by
  have h := pr_an2 (q := true) (q' := false) (p8_feed hG hx hR.1 x1 x2 x3 x4 x5) (pwD_feed hG hx hR.1.1 hR.2 x1 x2 x3 x4 x5)
  exact h
theorem p17_slide {g : pH} (hG : g_I eG g) (hx : xL g) (hR : R17 g) (x1 x2 x3 x4 : Int32) : pr_ R17 147 251 [.inl x1, .inl x2, .inl x3, .inl x4] 0 true g := by
  have h := pr_aq (p8_slide hG hx hR.1 x1 x2 x3 x4) (psD_slide hG hx hR.1.1 hR.2 x1 x2 x3 x4)
  exact h
theorem p17_put {g : pH} (hG : g_I eG g) (hx : xL g) (hR : R17 g) (x1 x2 : Int32) : pr_ R17 139 231 [.inl x1, .inl x2] 0 true g := by
  have h := pr_an2 (q := true) (q' := false) (p8_put hG hx hR.1 x1 x2) (pwD_put hG hx hR.1.1 hR.2 x1 x2)
  exact h
theorem p17_day {g : pH} (hG : g_I eG g) (hx : xL g) (hR : R17 g) (x1 x2 : Int32) : pr_ R17 116 183 [.inl x1, .inl x2] 0 true g := by
  have h := pr_aq (p8_day hG hx hR.1 x1 x2) (psD_day hG hx hR.1.1 hR.2 x1 x2)
  exact h
theorem p17_gone {g : pH} (hG : g_I eG g) (hx : xL g) (hR : R17 g) (x1 : Int32) : pr_ R17 120 194 [.inl x1] 0 true g := by
  have h := pr_an2 (q := true) (q' := false) (p8_gone hG hx hR.1 x1) (pwD_gone hG hx hR.1.1 hR.2 x1)
  exact h
theorem p17_looker {g : pH} (hG : g_I eG g) (hx : xL g) (hR : R17 g) (x1 x2 x3 : Int32) : pr_ R17 134 221 [.inl x1, .inl x2, .inl x3] 0 false g := by
  have h := pr_an2 (q := false) (q' := false) (p8_looker hG hx hR.1 x1 x2 x3) (pwD_looker hG hx hR.1.1 hR.2 x1 x2 x3)
  exact h
theorem p17_lamps {g : pH} (hG : g_I eG g) (hx : xL g) (hR : R17 g) (x1 : Int32) : pr_ R17 128 211 [.inl x1] 0 false g := by
  have h := pr_an2 (q := false) (q' := false) (p8_lamps hG hx hR.1 x1) (pwD_lamps hG hx hR.1.1 hR.2 x1)
  exact h
theorem p17_tray {g : pH} (hG : g_I eG g) (hx : xL g) (hR : R17 g) (x1 : Int32) : pr_ R17 157 264 [.inl x1] 0 false g := by
  have h := pr_an2 (q := false) (q' := false) (p8_tray hG hx hR.1 x1) (pwD_tray hG hx hR.1.1 hR.2 x1)
  exact h
theorem p17_law {g : pH} (hG : g_I eG g) (hx : xL g) (hR : R17 g) (x1 : Int32) : pr_ R17 129 213 [.inl x1] 0 false g := by
  have h := pr_an2 (q := false) (q' := false) (p8_law hG hx hR.1 x1) (pwD_law hG hx hR.1.1 hR.2 x1)
  exact h
theorem p17_ways {g : pH} (hG : g_I eG g) (hx : xL g) (hR : R17 g) (x1 x2 x3 : Int32) : pr_ R17 164 273 [.inl x1, .inl x2, .inl x3] 0 false g := by
  have h := pr_an2 (q := false) (q' := false) (p8_ways hG hx hR.1 x1 x2 x3) (pwD_ways hG hx hR.1.1 hR.2 x1 x2 x3)
  exact h
theorem p17_shown {g : pH} (hG : g_I eG g) (hx : xL g) (hR : R17 g) (x1 x2 x3 : Int32) : pr_ R17 146 247 [.inl x1, .inl x2, .inl x3] 0 false g := by
  have h := pr_an2 (q := false) (q' := false) (p8_shown hG hx hR.1 x1 x2 x3) (pwD_shown hG hx hR.1.1 hR.2 x1 x2 x3)
  exact h
theorem p17_slideIs {g : pH} (hG : g_I eG g) (hx : xL g) (hR : R17 g) (x1 x2 : Int32) : pr_ R17 148 252 [.inl x1, .inl x2] 0 false g := by
  have h := pr_an2 (q := false) (q' := false) (p8_slideIs hG hx hR.1 x1 x2) (pwD_slideIs hG hx hR.1.1 hR.2 x1 x2)
  exact h
theorem p17_inTray {g : pH} (hG : g_I eG g) (hx : xL g) (hR : R17 g) (x1 : Int32) : pr_ R17 122 200 [.inl x1] 0 false g := by
  have h := pr_an2 (q := false) (q' := false) (p8_inTray hG hx hR.1 x1) (pwD_inTray hG hx hR.1.1 hR.2 x1)
  exact h
theorem p17_evening {g : pH} (hG : g_I eG g) (hx : xL g) (hR : R17 g) : pr_ R17 118 187 [] 0 false g := by
  have h := pr_an2 (q := false) (q' := false) (p8_evening hG hx hR.1) (pwD_evening hG hx hR.1.1 hR.2)
  exact h
theorem p17_tried {g : pH} (hG : g_I eG g) (hx : xL g) (hR : R17 g) (x1 : Int32) : pr_ R17 158 265 [.inl x1] 0 false g := by
  have h := pr_an2 (q := false) (q' := false) (p8_tried hG hx hR.1 x1) (pwD_tried hG hx hR.1.1 hR.2 x1)
  exact h
theorem p17_odds {g : pH} (hG : g_I eG g) (hx : xL g) (hR : R17 g) (x1 x2 x3 x4 : Int32) : pr_ R17 137 228 [.inl x1, .inl x2, .inl x3, .inl x4] 0 false g := by
  have h := pr_an2 (q := false) (q' := false) (p8_odds hG hx hR.1 x1 x2 x3 x4) (pwD_odds hG hx hR.1.1 hR.2 x1 x2 x3 x4)
  exact h
theorem p17_toTurn {g : pH} (hG : g_I eG g) (hx : xL g) (hR : R17 g) (x1 x2 : Int32) : pr_ R17 156 263 [.inl x1, .inl x2] 1 false g := by
  have h := pr_an2 (q := false) (q' := false) (p8_toTurn hG hx hR.1 x1 x2) (pwD_toTurn hG hx hR.1.1 hR.2 x1 x2)
  exact h
theorem p17_leave {g : pH} (hG : g_I eG g) (hx : xL g) (hR : R17 g) (x1 x2 : Int32) : pr_ R17 130 217 [.inl x1, .inl x2] 1 false g := by
  have h := pr_an2 (q := false) (q' := false) (p8_leave hG hx hR.1 x1 x2) (pwD_leave hG hx hR.1.1 hR.2 x1 x2)
  exact h
theorem p17_sure {g : pH} (hG : g_I eG g) (hx : xL g) (hR : R17 g) (x1 x2 : Int32) : pr_ R17 150 258 [.inl x1, .inl x2] 0 true g := by
  have h := pr_an2 (q := true) (q' := false) (p8_sure hG hx hR.1 x1 x2) (pwD_sure hG hx hR.1.1 hR.2 x1 x2)
  exact h
theorem p17_dots {g : pH} (hG : g_I eG g) (hx : xL g) (hR : R17 g) (x1 x2 : Int32) : pr_ R17 117 184 [.inl x1, .inl x2] 0 false g := by
  have h := pr_an2 (q := false) (q' := false) (p8_dots hG hx hR.1 x1 x2) (pwD_dots hG hx hR.1.1 hR.2 x1 x2)
  exact h
theorem p17_lightBox {g : pH} (hG : g_I eG g) (hx : xL g) (hR : R17 g) (x1 x2 : Int32) : pr_ R17 132 219 [.inl x1, .inl x2] 1 false g := by
  have h := pr_an2 (q := false) (q' := false) (p8_lightBox hG hx hR.1 x1 x2) (pwD_lightBox hG hx hR.1.1 hR.2 x1 x2)
  exact h
theorem p17_clue {g : pH} (hG : g_I eG g) (hx : xL g) (hR : R17 g) (x1 x2 : Int32) : pr_ R17 111 177 [.inl x1, .inl x2] 0 false g := by
  have h := pr_an2 (q := false) (q' := false) (p8_clue hG hx hR.1 x1 x2) (pwD_clue hG hx hR.1.1 hR.2 x1 x2)
  exact h
theorem p17_spilt {g : pH} (hG : g_I eG g) (hx : xL g) (hR : R17 g) (x1 x2 : Int32) : pr_ R17 149 254 [.inl x1, .inl x2] 1 false g := by
  have h := pr_an2 (q := false) (q' := false) (p8_spilt hG hx hR.1 x1 x2) (pwD_spilt hG hx hR.1.1 hR.2 x1 x2)
  exact h
theorem p17_says {g : pH} (hG : g_I eG g) (hx : xL g) (hR : R17 g) (x1 x2 x3 x4 : Int32) : pr_ R17 142 243 [.inl x1, .inl x2, .inl x3, .inl x4] 1 false g := by
  have h := pr_an2 (q := false) (q' := false) (p8_says hG hx hR.1 x1 x2 x3 x4) (pwD_says hG hx hR.1.1 hR.2 x1 x2 x3 x4)
  exact h
theorem p17_shadow {g : pH} (hG : g_I eG g) (hx : xL g) (hR : R17 g) (x1 x2 x3 : Int32) : pr_ R17 145 246 [.inl x1, .inl x2, .inl x3] 0 false g := by
  have h := pr_an2 (q := false) (q' := false) (p8_shadow hG hx hR.1 x1 x2 x3) (pwD_shadow hG hx hR.1.1 hR.2 x1 x2 x3)
  exact h
theorem p17_link {g : pH} (hG : g_I eG g) (hx : xL g) (hR : R17 g) (x1 x2 : Int32) : pr_ R17 133 220 [.inl x1, .inl x2] 0 false g := by
  have h := pr_an2 (q := false) (q' := false) (p8_link hG hx hR.1 x1 x2) (pwD_link hG hx hR.1.1 hR.2 x1 x2)
  exact h
theorem p17_leftOut {g : pH} (hG : g_I eG g) (hx : xL g) (hR : R17 g) (x1 x2 : Int32) : pr_ R17 131 218 [.inl x1, .inl x2] 0 false g := by
  have h := pr_an2 (q := false) (q' := false) (p8_leftOut hG hx hR.1 x1 x2) (pwD_leftOut hG hx hR.1.1 hR.2 x1 x2)
  exact h
theorem p17_lamp {g : pH} (hG : g_I eG g) (hx : xL g) (hR : R17 g) (x1 x2 x3 : Int32) : pr_ R17 127 210 [.inl x1, .inl x2, .inl x3] 1 false g := by
  have h := pr_an2 (q := false) (q' := false) (p8_lamp hG hx hR.1 x1 x2 x3) (pwD_lamp hG hx hR.1.1 hR.2 x1 x2 x3)
  exact h
theorem p17_hand {g : pH} (hG : g_I eG g) (hx : xL g) (hR : R17 g) (x1 : Int32) : pr_ R17 121 195 [.inl x1] 1 false g := by
  have h := pr_an2 (q := false) (q' := false) (p8_hand hG hx hR.1 x1) (pwD_hand hG hx hR.1.1 hR.2 x1)
  exact h
theorem p17_putIn {g : pH} (hG : g_I eG g) (hx : xL g) (hR : R17 g) : pr_ R17 140 232 [] 0 false g := by
  have h := pr_an2 (q := false) (q' := false) (p8_putIn hG hx hR.1) (pwD_putIn hG hx hR.1.1 hR.2)
  exact h
theorem p17_seed {g : pH} (hG : g_I eG g) (hx : xL g) (hR : R17 g) (x1 : Int32) : pr_ R17 144 245 [.inl x1] 0 false g := by
  have h := pr_an2 (q := false) (q' := false) (p8_seed hG hx hR.1 x1) (pwD_seed hG hx hR.1.1 hR.2 x1)
  exact h
theorem p17_keep {g : pH} (hG : g_I eG g) (hx : xL g) (hR : R17 g) : pr_ R17 126 209 [] 0 true g := by
  have h := pr_aq (p8_keep hG hx hR.1) (psD_keep hG hx hR.1.1 hR.2)
  exact h
theorem p17_undo {g : pH} (hG : g_I eG g) (hx : xL g) (hR : R17 g) : pr_ R17 160 270 [] 0 true g := by
  have h := pr_aq (p8_undo hG hx hR.1) (psD_undo hG hx hR.1.1 hR.2)
  exact h
theorem p17_check {g : pH} (hG : g_I eG g) (hx : xL g) (hR : R17 g) (x1 x2 : Int32) : pr_ R17 110 174 [.inl x1, .inl x2] 0 false g := by
  have h := pr_an2 (q := false) (q' := false) (p8_check hG hx hR.1 x1 x2) (pwD_check hG hx hR.1.1 hR.2 x1 x2)
  exact h
theorem p17_count {g : pH} (hG : g_I eG g) (hx : xL g) (hR : R17 g) (x1 : Int32) : pr_ R17 115 182 [.inl x1] 0 false g := by
  have h := pr_an2 (q := false) (q' := false) (p8_count hG hx hR.1 x1) (pwD_count hG hx hR.1.1 hR.2 x1)
  exact h
