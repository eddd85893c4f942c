/-! the tie: rows of twos, as pairs (printed by wip/e2/t18.py) -/
def mP1 : Nat := 59875209286041594349691313464737940898335125898009955374228046984947865786449453963725995633254710213895142009639746771616146808250556124104344874535434818280984482823277186030428977928857350659078328925237643241930048762677267480922380384242693264253163351626744243751645952537981994605215744
def mP2 : Nat := 239500837144166377398764989711686195760717327422147363238608928516128445085036751874549469196067562493150830829931043257870639895804727867853040056967959521781169306023619512652168794810040319318946440455805114389055781941624216678936502760057631727082204402303439972299515673682578125992493056
def mP3 : Nat := 526667910604194113593759493640754316377380143048023799178857199053122464216173386242132222601179876216601654403385168532507475155921893832830208776830588703477605828625587080776244046007595547068579123613045506904670523647590818916960986834595857764957704480245418429200535125299183590182286061003658493952
def mP4 : Nat := 2106671642416776454372658747509452812609043672195055355819218779889834825730208953144656267112163144733659559652217404255636437395478357733489380018041399008932634074563832274749351720407599810983521770868209945789566467863224612603899017889050145057974676413690052162929162408652061203794358259831032250368
def mP : Nat := 2633339553021269944012848449121955585289600239379738207451396136261570126921883415697659975919181296415090536328309618760983483341429738353023644078863945097341743297529481509314442663113877955824839792151233477463618034268446417351564306207805861706076681218926805959883627718167295955602864880955288453120
theorem mP1_b : mP1.testBit (cn 70 + 2) = true ∧ mP1.testBit (cn 71) = true ∧ mP1.testBit (cn 72) = true ∧ mP1.testBit (cn 196 + 22) = true ∧ mP1.testBit (cn 206) = true ∧ mP1.testBit (cn 207) = true ∧ mP1 &&& mP = mP1 := by decide +kernel
theorem mP2_b : mP2.testBit (cn 73 + 2) = true ∧ mP2.testBit (cn 74) = true ∧ mP2.testBit (cn 75) = true ∧ mP2.testBit (cn 196 + 23) = true ∧ mP2.testBit (cn 208) = true ∧ mP2.testBit (cn 209) = true ∧ mP2 &&& mP = mP2 := by decide +kernel
theorem mP3_b : mP3.testBit (cn 144 + 2) = true ∧ mP3.testBit (cn 145) = true ∧ mP3.testBit (cn 146) = true ∧ mP3.testBit (cn 196 + 75) = true ∧ mP3.testBit (cn 249) = true ∧ mP3.testBit (cn 250) = true ∧ mP3 &&& mP = mP3 := by decide +kernel
theorem mP4_b : mP4.testBit (cn 147 + 2) = true ∧ mP4.testBit (cn 148) = true ∧ mP4.testBit (cn 149) = true ∧ mP4.testBit (cn 196 + 76) = true ∧ mP4.testBit (cn 251) = true ∧ mP4.testBit (cn 252) = true ∧ mP4 &&& mP = mP4 := by decide +kernel
theorem mPi {W M : Nat} (h : W &&& mP = 0) (hM : M &&& mP = M) : W &&& M = 0 := by
  rw [← hM, Nat.and_comm M mP, ← Nat.and_assoc, h, Nat.zero_and]
def rPw (k a b y A B : Nat) (g : pH) : Prop := cF g k 2 = fF g y ∧ rwE (cF g k 2).toNat (fA g a) (fA g b) (fA g A) (fA g B)
def RP (g : pH) : Prop := rPw 70 71 72 22 206 207 g ∧ rPw 73 74 75 23 208 209 g ∧ rPw 144 145 146 75 249 250 g ∧ rPw 147 148 149 76 251 252 g
def R9 (g : pH) : Prop := R0 g ∧ RP g
section FRP
variable {W : Nat} {g g1 g2 : pH}
theorem rPw_f {k a b y A B : Nat} (hM : f_M W g g1) (h1 : W.testBit (cn k + 2) = false) (h2 : W.testBit (cn a) = false) (h3 : W.testBit (cn b) = false) (h4 : W.testBit (cn 196 + y) = false) (h5 : W.testBit (cn A) = false) (h6 : W.testBit (cn B) = false) (h : rPw k a b y A B g) : rPw k a b y A B g1 := by
  unfold rPw at h ⊢
  rw [cF_M hM h1, fF_M hM h4, fA_M hM h2, fA_M hM h3, fA_M hM h5, fA_M hM h6]
  exact h
theorem fr_P1 (hM : f_M W g g1) (hW : W &&& mP1 = 0) (h : rPw 70 71 72 22 206 207 g) : rPw 70 71 72 22 206 207 g1 := rPw_f hM (mx_f hW mP1_b.1) (mx_f hW mP1_b.2.1) (mx_f hW mP1_b.2.2.1) (mx_f hW mP1_b.2.2.2.1) (mx_f hW mP1_b.2.2.2.2.1) (mx_f hW mP1_b.2.2.2.2.2.1) h
theorem fr_P2 (hM : f_M W g g1) (hW : W &&& mP2 = 0) (h : rPw 73 74 75 23 208 209 g) : rPw 73 74 75 23 208 209 g1 := rPw_f hM (mx_f hW mP2_b.1) (mx_f hW mP2_b.2.1) (mx_f hW mP2_b.2.2.1) (mx_f hW mP2_b.2.2.2.1) (mx_f hW mP2_b.2.2.2.2.1) (mx_f hW mP2_b.2.2.2.2.2.1) h
theorem fr_P3 (hM : f_M W g g1) (hW : W &&& mP3 = 0) (h : rPw 144 145 146 75 249 250 g) : rPw 144 145 146 75 249 250 g1 := rPw_f hM (mx_f hW mP3_b.1) (mx_f hW mP3_b.2.1) (mx_f hW mP3_b.2.2.1) (mx_f hW mP3_b.2.2.2.1) (mx_f hW mP3_b.2.2.2.2.1) (mx_f hW mP3_b.2.2.2.2.2.1) h
theorem fr_P4 (hM : f_M W g g1) (hW : W &&& mP4 = 0) (h : rPw 147 148 149 76 251 252 g) : rPw 147 148 149 76 251 252 g1 := rPw_f hM (mx_f hW mP4_b.1) (mx_f hW mP4_b.2.1) (mx_f hW mP4_b.2.2.1) (mx_f hW mP4_b.2.2.2.1) (mx_f hW mP4_b.2.2.2.2.1) (mx_f hW mP4_b.2.2.2.2.2.1) h
theorem RP_f (hM : f_M W g g1) (hW : W &&& mP = 0) (h : RP g) : RP g1 := ⟨fr_P1 hM (mPi hW mP1_b.2.2.2.2.2.2) h.1, fr_P2 hM (mPi hW mP2_b.2.2.2.2.2.2) h.2.1, fr_P3 hM (mPi hW mP3_b.2.2.2.2.2.2) h.2.2.1, fr_P4 hM (mPi hW mP4_b.2.2.2.2.2.2) h.2.2.2⟩
theorem toM_e (hM : f_M W g g1) (hW : W &&& 2 ^ (cn 196 + 0) = 0) {i : Int} : toM g i ↔ toM g1 i := by
  have k : g1.1 196 0 = g.1 196 0 := (hM.1 196 0 (mx_f hW Nat.testBit_two_pow_self)).1
  have kb : ∀ m, bM g1 m ↔ bM g m := fun m => by
    unfold bM
    rw [k]
  constructor
  · rintro ⟨m, h1, h2, h3⟩
    exact ⟨m, h1, h2, (kb m).mpr h3⟩
  · rintro ⟨m, h1, h2, h3⟩
    exact ⟨m, h1, h2, (kb m).mp h3⟩
theorem rwE_add {c : Int} (hc : 0 ≤ c) {A B A' B' : Nat → Int} {i j : Int} (h : rwE c.toNat A B A' B') : rwE (c + 1).toNat (updI A c.toNat i) (updI B c.toNat j) (updI A' c.toNat i) (updI B' c.toNat j) := fun q hq => by
  unfold updI
  by_cases z : q = c.toNat
  · rw [if_pos z, if_pos z, if_pos z, if_pos z]
    exact ⟨rfl, rfl⟩
  · rw [if_neg z, if_neg z, if_neg z, if_neg z]
    exact h q (by omega)
theorem gone_w {i : Int} {k a b y A B : Nat} (p : rPw k a b y A B g) (D : dwR i k a b g g1) (E : dwQ i y A B g1 g2) (c1 : cF g2 k 2 = cF g1 k 2) (c2 : fA g2 a = fA g1 a) (c3 : fA g2 b = fA g1 b) (f1 : fF g1 y = fF g y) (f2 : fA g1 A = fA g A) (f3 : fA g1 B = fA g B) : rPw k a b y A B g2 := by
  obtain ⟨d1, d2, d3⟩ := D
  obtain ⟨e1, e2, e3⟩ := E
  obtain ⟨p1, p2⟩ := p
  rw [f1, f2, f3, ← p1] at e1 e2 e3
  obtain ⟨h1, h2⟩ := dw_r (i := i) p2 (cF g k 2).toNat (Nat.le_refl _)
  have hle := dw_le (i := i) (A := fA g a) (B := fA g b) (cF g k 2).toNat
  refine ⟨by rw [c1, d1, e1, h1], fun j hj => ?_⟩
  rw [c1, d1] at hj
  rw [c2, c3, d2, d3, e2, e3]
  exact h2 j (by omega)
theorem keep_w {k a b y A B k2 a2 b2 y2 A2 B2 N : Nat} (p : rPw k a b y A B g) (C : cpR k a b k2 a2 b2 g g1) (D : cpQ y A B N y2 A2 B2 g1 g2) (hb : 0 ≤ cF g k 2 ∧ cF g k 2 ≤ N) (c1 : cF g2 k2 2 = cF g1 k2 2) (c2 : fA g2 a2 = fA g1 a2) (c3 : fA g2 b2 = fA g1 b2) (f1 : fF g1 y = fF g y) (f2 : fA g1 A = fA g A) (f3 : fA g1 B = fA g B) : rPw k2 a2 b2 y2 A2 B2 g2 := by
  refine ⟨by rw [c1, C.1, D.1, f1]; exact p.1, fun j hj => ?_⟩
  rw [c1, C.1] at hj
  have h1 := C.2 j (by omega)
  have h2 := D.2 j (by omega)
  have h3 := p.2 j hj
  rw [f2, f3] at h2
  rw [c2, c3]
  exact ⟨by rw [h1.1, h2.1]; exact h3.1, by rw [h1.2, h2.2]; exact h3.2⟩
theorem pr_and {R R' : pH → Prop} {μ ν : Nat} {as : List pv} {τ : Nat} {q q' : Bool} (h : pr_ R μ ν as τ q g) (h' : pr_ R' μ ν as τ q' g) : pr_ (fun g => R g ∧ R' g) μ ν as τ (q || q') g := t_mono (t_and h h') (fun o ho => by
  obtain ⟨⟨v, h1, h2, h3⟩, v', h4, h5, h6⟩ := ho
  obtain rfl : v = v' := Option.some.inj (h1.symm.trans h4)
  refine ⟨v, h1, h2, t_mono (t_and h3 h6) (fun o2 ho2 => ?_)⟩
  obtain ⟨⟨w, k1, k2, k3, k4, k5, k6⟩, w', k7, k8, k9, k10, k11, k12⟩ := ho2
  obtain rfl : w = w' := Option.some.inj (k1.symm.trans k7)
  refine ⟨w, k1, k2, k3, k4, ⟨k5, k11⟩, fun z => ?_⟩
  rw [Bool.or_eq_true] at z
  exact z.elim k6 k12)
end FRP
theorem mg9_0 : kk_0.2.2.2.1 &&& mP = 0 := by decide +kernel
theorem mg9_1 : kk_1.2.2.2.1 &&& mP = 0 := by decide +kernel
theorem pw9_feed {g : pH} (hG : g_I eG g) (hx : xL g) (hR : R0 g) (hP : RP g) (x1 x2 x3 x4 x5 : Int32) : pr_ RP 119 189 [.inl x1, .inl x2, .inl x3, .inl x4, .inl x5] 0 false g := by
  unfold pr_
  refine kc_go (k := kk_0) in_k0 rfl (by decide) hG hx (vs := [pvR 0, .inl x1, .inl x2, .inl x3, .inl x4, .inl x5]) (xs := [cv (pvR 0), x1.toInt, x2.toInt, x3.toInt, x4.toInt, x5.toInt]) ⟨by decide, ⟨⟨pvR 0, rfl, rfl, rfl, ok_0⟩, ⟨.inl x1, rfl, rfl, rfl, ok_full32 _⟩, ⟨.inl x2, rfl, rfl, rfl, ok_full32 _⟩, ⟨.inl x3, rfl, rfl, rfl, ok_full32 _⟩, ⟨.inl x4, rfl, rfl, rfl, ok_full32 _⟩, ⟨.inl x5, rfl, rfl, rfl, ok_full32 _⟩, trivial⟩, trivial, fun c hc => by cases hc⟩ rfl (n := 0) (by decide +kernel) (fun v1 g1 c1 G1 X1 M1 => ⟨v1, rfl, c1, ?_⟩)
  have Q1 := RP_f M1 mg9_0 hP
  exact kc_go (k := kk_1) in_k1 rfl (by decide) G1 X1 (vs := [pvR 196, .inl x1, .inl x2, .inl x3, .inl x4, .inl x5]) (xs := [cv (pvR 196), x1.toInt, x2.toInt, x3.toInt, x4.toInt, x5.toInt]) ⟨by decide, ⟨⟨pvR 196, rfl, rfl, rfl, ok_this⟩, ⟨.inl x1, rfl, rfl, rfl, ok_full32 _⟩, ⟨.inl x2, rfl, rfl, rfl, ok_full32 _⟩, ⟨.inl x3, rfl, rfl, rfl, ok_full32 _⟩, ⟨.inl x4, rfl, rfl, rfl, ok_full32 _⟩, ⟨.inl x5, rfl, rfl, rfl, ok_full32 _⟩, trivial⟩, trivial, fun c hc => by cases hc⟩ rfl (n := 0) (by decide +kernel) (fun v2 g2 c2 G2 X2 M2 => ⟨v2, rfl, c2, G2, X2, RP_f M2 mg9_1 Q1, fun z => by cases z⟩)
theorem mg9_2 : kk_2.2.2.2.1 &&& mP = 0 := by decide +kernel
theorem mg9_3 : kk_3.2.2.2.1 &&& mP = 0 := by decide +kernel
theorem pw9_slide {g : pH} (hG : g_I eG g) (hx : xL g) (hR : R0 g) (hP : RP g) (x1 x2 x3 x4 : Int32) : pr_ RP 147 251 [.inl x1, .inl x2, .inl x3, .inl x4] 0 false g := by
  unfold pr_
  refine kc_go (k := kk_2) in_k2 rfl (by decide) hG hx (vs := [pvR 0, .inl x1, .inl x2, .inl x3, .inl x4]) (xs := [cv (pvR 0), x1.toInt, x2.toInt, x3.toInt, x4.toInt]) ⟨by decide, ⟨⟨pvR 0, rfl, rfl, rfl, ok_0⟩, ⟨.inl x1, rfl, rfl, rfl, ok_full32 _⟩, ⟨.inl x2, rfl, rfl, rfl, ok_full32 _⟩, ⟨.inl x3, rfl, rfl, rfl, ok_full32 _⟩, ⟨.inl x4, rfl, rfl, rfl, ok_full32 _⟩, trivial⟩, trivial, fun c hc => by cases hc⟩ rfl (n := 0) (by decide +kernel) (fun v1 g1 c1 G1 X1 M1 => ⟨v1, rfl, c1, ?_⟩)
  have Q1 := RP_f M1 mg9_2 hP
  exact kc_go (k := kk_3) in_k3 rfl (by decide) G1 X1 (vs := [pvR 196, .inl x1, .inl x2, .inl x3, .inl x4]) (xs := [cv (pvR 196), x1.toInt, x2.toInt, x3.toInt, x4.toInt]) ⟨by decide, ⟨⟨pvR 196, rfl, rfl, rfl, ok_this⟩, ⟨.inl x1, rfl, rfl, rfl, ok_full32 _⟩, ⟨.inl x2, rfl, rfl, rfl, ok_full32 _⟩, ⟨.inl x3, rfl, rfl, rfl, ok_full32 _⟩, ⟨.inl x4, rfl, rfl, rfl, ok_full32 _⟩, trivial⟩, trivial, fun c hc => by cases hc⟩ rfl (n := 0) (by decide +kernel) (fun v2 g2 c2 G2 X2 M2 => ⟨v2, rfl, c2, G2, X2, RP_f M2 mg9_3 Q1, fun z => by cases z⟩)
theorem mg9_4 : kk_4.2.2.2.1 &&& mP = 0 := by decide +kernel
theorem mg9_5 : kk_5.2.2.2.1 &&& mP = 0 := by decide +kernel
theorem pw9_put {g : pH} (hG : g_I eG g) (hx : xL g) (hR : R0 g) (hP : RP g) (x1 x2 : Int32) : pr_ RP 139 231 [.inl x1, .inl x2] 0 false g := by
  unfold pr_
  refine kc_go (k := kk_4) in_k4 rfl (by decide) hG hx (vs := [pvR 0, .inl x1, .inl x2]) (xs := [cv (pvR 0), x1.toInt, x2.toInt]) ⟨by decide, ⟨⟨pvR 0, rfl, rfl, rfl, ok_0⟩, ⟨.inl x1, rfl, rfl, rfl, ok_full32 _⟩, ⟨.inl x2, rfl, rfl, rfl, ok_full32 _⟩, trivial⟩, trivial, fun c hc => by cases hc⟩ rfl (n := 0) (by decide +kernel) (fun v1 g1 c1 G1 X1 M1 => ⟨v1, rfl, c1, ?_⟩)
  have Q1 := RP_f M1 mg9_4 hP
  exact kc_go (k := kk_5) in_k5 rfl (by decide) G1 X1 (vs := [pvR 196, .inl x1, .inl x2]) (xs := [cv (pvR 196), x1.toInt, x2.toInt]) ⟨by decide, ⟨⟨pvR 196, rfl, rfl, rfl, ok_this⟩, ⟨.inl x1, rfl, rfl, rfl, ok_full32 _⟩, ⟨.inl x2, rfl, rfl, rfl, ok_full32 _⟩, trivial⟩, trivial, fun c hc => by cases hc⟩ rfl (n := 0) (by decide +kernel) (fun v2 g2 c2 G2 X2 M2 => ⟨v2, rfl, c2, G2, X2, RP_f M2 mg9_5 Q1, fun z => by cases z⟩)
theorem mg9_6 : kk_6.2.2.2.1 &&& mP = 0 := by decide +kernel
theorem mg9_7 : kk_7.2.2.2.1 &&& mP = 0 := by decide +kernel
theorem pw9_day {g : pH} (hG : g_I eG g) (hx : xL g) (hR : R0 g) (hP : RP g) (x1 x2 : Int32) : pr_ RP 116 183 [.inl x1, .inl x2] 0 false g := by
  unfold pr_
  refine kc_go (k := kk_6) in_k6 rfl (by decide) hG hx (vs := [pvR 0, .inl x1, .inl x2]) (xs := [cv (pvR 0), x1.toInt, x2.toInt]) ⟨by decide, ⟨⟨pvR 0, rfl, rfl, rfl, ok_0⟩, ⟨.inl x1, rfl, rfl, rfl, ok_full32 _⟩, ⟨.inl x2, rfl, rfl, rfl, ok_full32 _⟩, trivial⟩, trivial, fun c hc => by cases hc⟩ rfl (n := 0) (by decide +kernel) (fun v1 g1 c1 G1 X1 M1 => ⟨v1, rfl, c1, ?_⟩)
  have Q1 := RP_f M1 mg9_6 hP
  exact kc_go (k := kk_7) in_k7 rfl (by decide) G1 X1 (vs := [pvR 196, .inl x1, .inl x2]) (xs := [cv (pvR 196), x1.toInt, x2.toInt]) ⟨by decide, ⟨⟨pvR 196, rfl, rfl, rfl, ok_this⟩, ⟨.inl x1, rfl, rfl, rfl, ok_full32 _⟩, ⟨.inl x2, rfl, rfl, rfl, ok_full32 _⟩, trivial⟩, trivial, fun c hc => by cases hc⟩ rfl (n := 0) (by decide +kernel) (fun v2 g2 c2 G2 X2 M2 => ⟨v2, rfl, c2, G2, X2, RP_f M2 mg9_7 Q1, fun z => by cases z⟩)
theorem mg9_8 : kk_10.2.2.2.1 &&& mP = 0 := by decide +kernel
theorem mg9_9 : kk_11.2.2.2.1 &&& mP = 0 := by decide +kernel
theorem pw9_looker {g : pH} (hG : g_I eG g) (hx : xL g) (hR : R0 g) (hP : RP g) (x1 x2 x3 : Int32) : pr_ RP 134 221 [.inl x1, .inl x2, .inl x3] 0 false g := by
  unfold pr_
  refine kc_go (k := kk_10) in_k10 rfl (by decide) hG hx (vs := [pvR 0, .inl x1, .inl x2, .inl x3]) (xs := [cv (pvR 0), x1.toInt, x2.toInt, x3.toInt]) ⟨by decide, ⟨⟨pvR 0, rfl, rfl, rfl, ok_0⟩, ⟨.inl x1, rfl, rfl, rfl, ok_full32 _⟩, ⟨.inl x2, rfl, rfl, rfl, ok_full32 _⟩, ⟨.inl x3, rfl, rfl, rfl, ok_full32 _⟩, trivial⟩, trivial, fun c hc => by cases hc⟩ rfl (n := 0) (by decide +kernel) (fun v1 g1 c1 G1 X1 M1 => ⟨v1, rfl, c1, ?_⟩)
  have Q1 := RP_f M1 mg9_8 hP
  exact kc_go (k := kk_11) in_k11 rfl (by decide) G1 X1 (vs := [pvR 196, .inl x1, .inl x2, .inl x3]) (xs := [cv (pvR 196), x1.toInt, x2.toInt, x3.toInt]) ⟨by decide, ⟨⟨pvR 196, rfl, rfl, rfl, ok_this⟩, ⟨.inl x1, rfl, rfl, rfl, ok_full32 _⟩, ⟨.inl x2, rfl, rfl, rfl, ok_full32 _⟩, ⟨.inl x3, rfl, rfl, rfl, ok_full32 _⟩, trivial⟩, trivial, fun c hc => by cases hc⟩ rfl (n := 0) (by decide +kernel) (fun v2 g2 c2 G2 X2 M2 => ⟨v2, rfl, c2, G2, X2, RP_f M2 mg9_9 Q1, fun z => by cases z⟩)
theorem mg9_10 : kk_12.2.2.2.1 &&& mP = 0 := by decide +kernel
theorem mg9_11 : kk_13.2.2.2.1 &&& mP = 0 := by decide +kernel
theorem pw9_lamps {g : pH} (hG : g_I eG g) (hx : xL g) (hR : R0 g) (hP : RP g) (x1 : Int32) : pr_ RP 128 211 [.inl x1] 0 false g := by
  unfold pr_
  refine kc_go (k := kk_12) in_k12 rfl (by decide) hG hx (vs := [pvR 0, .inl x1]) (xs := [cv (pvR 0), x1.toInt]) ⟨by decide, ⟨⟨pvR 0, rfl, rfl, rfl, ok_0⟩, ⟨.inl x1, rfl, rfl, rfl, ok_full32 _⟩, trivial⟩, trivial, fun c hc => by cases hc⟩ rfl (n := 0) (by decide +kernel) (fun v1 g1 c1 G1 X1 M1 => ⟨v1, rfl, c1, ?_⟩)
  have Q1 := RP_f M1 mg9_10 hP
  exact kc_go (k := kk_13) in_k13 rfl (by decide) G1 X1 (vs := [pvR 196, .inl x1]) (xs := [cv (pvR 196), x1.toInt]) ⟨by decide, ⟨⟨pvR 196, rfl, rfl, rfl, ok_this⟩, ⟨.inl x1, rfl, rfl, rfl, ok_full32 _⟩, trivial⟩, trivial, fun c hc => by cases hc⟩ rfl (n := 0) (by decide +kernel) (fun v2 g2 c2 G2 X2 M2 => ⟨v2, rfl, c2, G2, X2, RP_f M2 mg9_11 Q1, fun z => by cases z⟩)
theorem mg9_12 : kk_20.2.2.2.1 &&& mP = 0 := by decide +kernel
theorem mg9_13 : Wt &&& mP = 0 := by decide +kernel
theorem pw9_tray {g : pH} (hG : g_I eG g) (hx : xL g) (hR : R0 g) (hP : RP g) (x1 : Int32) : pr_ RP 157 264 [.inl x1] 0 false g := by
  unfold pr_
  refine kc_go (k := kk_20) in_k20 rfl (by decide) hG hx (vs := [pvR 0, .inl x1]) (xs := [cv (pvR 0), x1.toInt]) ⟨by decide, ⟨⟨pvR 0, rfl, rfl, rfl, ok_0⟩, ⟨.inl x1, rfl, rfl, rfl, ok_full32 _⟩, trivial⟩, trivial, fun c hc => by cases hc⟩ rfl (n := 0) (by decide +kernel) (fun v1 g1 c1 G1 X1 M1 => ⟨v1, rfl, c1, ?_⟩)
  have Q1 := RP_f M1 mg9_12 hP
  exact ty9_run (n := x1.toInt) (by decide) G1 (i32_b _) (fun z2 g2 v2 J2 t2 => ⟨_, rfl, rfl, J2.1, xL_K _ _ _ J2.2 Wt_a.2.2.2.2 X1, RP_f J2.2 mg9_13 Q1, fun z => by cases z⟩) (fun z2 => ⟨_, rfl, rfl, G1, X1, Q1, fun z => by cases z⟩) rfl (congrArg some (oI_r x1))
theorem mg9_14 : kk_23.2.2.2.1 &&& mP = 0 := by decide +kernel
theorem mg9_15 : WL &&& mP = 0 := by decide +kernel
theorem pw9_law {g : pH} (hG : g_I eG g) (hx : xL g) (hR : R0 g) (hP : RP g) (x1 : Int32) : pr_ RP 129 213 [.inl x1] 0 false g := by
  unfold pr_
  refine kc_go (k := kk_23) in_k23 rfl (by decide) hG hx (vs := [pvR 0, .inl x1]) (xs := [cv (pvR 0), x1.toInt]) ⟨by decide, ⟨⟨pvR 0, rfl, rfl, rfl, ok_0⟩, ⟨.inl x1, rfl, rfl, rfl, ok_full32 _⟩, trivial⟩, trivial, fun c hc => by cases hc⟩ rfl (n := 0) (by decide +kernel) (fun v1 g1 c1 G1 X1 M1 => ⟨v1, rfl, c1, ?_⟩)
  have Q1 := RP_f M1 mg9_14 hP
  exact lw9_run (n := x1.toInt) (by decide) G1 X1 (i32_b _) (fun z2 g2 v2 J2 X2 t2 => ⟨_, rfl, rfl, J2.1, X2, RP_f J2.2 mg9_15 Q1, fun z => by cases z⟩) (fun z2 => ⟨_, rfl, rfl, G1, X1, Q1, fun z => by cases z⟩) rfl (congrArg some (oI_r x1))
theorem mg9_16 : kk_14.2.2.2.1 &&& mP = 0 := by decide +kernel
theorem mg9_17 : kk_15.2.2.2.1 &&& mP = 0 := by decide +kernel
theorem pw9_ways {g : pH} (hG : g_I eG g) (hx : xL g) (hR : R0 g) (hP : RP g) (x1 x2 x3 : Int32) : pr_ RP 164 273 [.inl x1, .inl x2, .inl x3] 0 false g := by
  unfold pr_
  refine kc_go (k := kk_14) in_k14 rfl (by decide) hG hx (vs := [pvR 0, .inl x1, .inl x2, .inl x3]) (xs := [cv (pvR 0), x1.toInt, x2.toInt, x3.toInt]) ⟨by decide, ⟨⟨pvR 0, rfl, rfl, rfl, ok_0⟩, ⟨.inl x1, rfl, rfl, rfl, ok_full32 _⟩, ⟨.inl x2, rfl, rfl, rfl, ok_full32 _⟩, ⟨.inl x3, rfl, rfl, rfl, ok_full32 _⟩, trivial⟩, trivial, fun c hc => by cases hc⟩ rfl (n := 0) (by decide +kernel) (fun v1 g1 c1 G1 X1 M1 => ⟨v1, rfl, c1, ?_⟩)
  have Q1 := RP_f M1 mg9_16 hP
  exact kc_go (k := kk_15) in_k15 rfl (by decide) G1 X1 (vs := [pvR 196, .inl x1, .inl x2, .inl x3]) (xs := [cv (pvR 196), x1.toInt, x2.toInt, x3.toInt]) ⟨by decide, ⟨⟨pvR 196, rfl, rfl, rfl, ok_this⟩, ⟨.inl x1, rfl, rfl, rfl, ok_full32 _⟩, ⟨.inl x2, rfl, rfl, rfl, ok_full32 _⟩, ⟨.inl x3, rfl, rfl, rfl, ok_full32 _⟩, trivial⟩, trivial, fun c hc => by cases hc⟩ rfl (n := 0) (by decide +kernel) (fun v2 g2 c2 G2 X2 M2 => ⟨v2, rfl, c2, G2, X2, RP_f M2 mg9_17 Q1, fun z => by cases z⟩)
theorem mg9_18 : kk_16.2.2.2.1 &&& mP = 0 := by decide +kernel
theorem mg9_19 : kk_17.2.2.2.1 &&& mP = 0 := by decide +kernel
theorem pw9_shown {g : pH} (hG : g_I eG g) (hx : xL g) (hR : R0 g) (hP : RP g) (x1 x2 x3 : Int32) : pr_ RP 146 247 [.inl x1, .inl x2, .inl x3] 0 false g := by
  unfold pr_
  refine kc_go (k := kk_16) in_k16 rfl (by decide) hG hx (vs := [pvR 0, .inl x1, .inl x2, .inl x3]) (xs := [cv (pvR 0), x1.toInt, x2.toInt, x3.toInt]) ⟨by decide, ⟨⟨pvR 0, rfl, rfl, rfl, ok_0⟩, ⟨.inl x1, rfl, rfl, rfl, ok_full32 _⟩, ⟨.inl x2, rfl, rfl, rfl, ok_full32 _⟩, ⟨.inl x3, rfl, rfl, rfl, ok_full32 _⟩, trivial⟩, trivial, fun c hc => by cases hc⟩ rfl (n := 0) (by decide +kernel) (fun v1 g1 c1 G1 X1 M1 => ⟨v1, rfl, c1, ?_⟩)
  have Q1 := RP_f M1 mg9_18 hP
  exact kc_go (k := kk_17) in_k17 rfl (by decide) G1 X1 (vs := [pvR 196, .inl x1, .inl x2, .inl x3]) (xs := [cv (pvR 196), x1.toInt, x2.toInt, x3.toInt]) ⟨by decide, ⟨⟨pvR 196, rfl, rfl, rfl, ok_this⟩, ⟨.inl x1, rfl, rfl, rfl, ok_full32 _⟩, ⟨.inl x2, rfl, rfl, rfl, ok_full32 _⟩, ⟨.inl x3, rfl, rfl, rfl, ok_full32 _⟩, trivial⟩, trivial, fun c hc => by cases hc⟩ rfl (n := 0) (by decide +kernel) (fun v2 g2 c2 G2 X2 M2 => ⟨v2, rfl, c2, G2, X2, RP_f M2 mg9_19 Q1, fun z => by cases z⟩)
theorem mg9_20 : kk_18.2.2.2.1 &&& mP = 0 := by decide +kernel
theorem mg9_21 : kk_19.2.2.2.1 &&& mP = 0 := by decide +kernel
theorem pw9_slideIs {g : pH} (hG : g_I eG g) (hx : xL g) (hR : R0 g) (hP : RP g) (x1 x2 : Int32) : pr_ RP 148 252 [.inl x1, .inl x2] 0 false g := by
  unfold pr_
  refine kc_go (k := kk_18) in_k18 rfl (by decide) hG hx (vs := [pvR 0, .inl x1, .inl x2]) (xs := [cv (pvR 0), x1.toInt, x2.toInt]) ⟨by decide, ⟨⟨pvR 0, rfl, rfl, rfl, ok_0⟩, ⟨.inl x1, rfl, rfl, rfl, ok_full32 _⟩, ⟨.inl x2, rfl, rfl, rfl, ok_full32 _⟩, trivial⟩, trivial, fun c hc => by cases hc⟩ rfl (n := 0) (by decide +kernel) (fun v1 g1 c1 G1 X1 M1 => ⟨v1, rfl, c1, ?_⟩)
  have Q1 := RP_f M1 mg9_20 hP
  exact kc_go (k := kk_19) in_k19 rfl (by decide) G1 X1 (vs := [pvR 196, .inl x1, .inl x2]) (xs := [cv (pvR 196), x1.toInt, x2.toInt]) ⟨by decide, ⟨⟨pvR 196, rfl, rfl, rfl, ok_this⟩, ⟨.inl x1, rfl, rfl, rfl, ok_full32 _⟩, ⟨.inl x2, rfl, rfl, rfl, ok_full32 _⟩, trivial⟩, trivial, fun c hc => by cases hc⟩ rfl (n := 0) (by decide +kernel) (fun v2 g2 c2 G2 X2 M2 => ⟨v2, rfl, c2, G2, X2, RP_f M2 mg9_21 Q1, fun z => by cases z⟩)
theorem mg9_22 : kk_21.2.2.2.1 &&& mP = 0 := by decide +kernel
theorem mg9_23 : kk_22.2.2.2.1 &&& mP = 0 := by decide +kernel
theorem pw9_inTray {g : pH} (hG : g_I eG g) (hx : xL g) (hR : R0 g) (hP : RP g) (x1 : Int32) : pr_ RP 122 200 [.inl x1] 0 false g := by
  unfold pr_
  refine kc_go (k := kk_21) in_k21 rfl (by decide) hG hx (vs := [pvR 0, .inl x1]) (xs := [cv (pvR 0), x1.toInt]) ⟨by decide, ⟨⟨pvR 0, rfl, rfl, rfl, ok_0⟩, ⟨.inl x1, rfl, rfl, rfl, ok_full32 _⟩, trivial⟩, trivial, fun c hc => by cases hc⟩ rfl (n := 0) (by decide +kernel) (fun v1 g1 c1 G1 X1 M1 => ⟨v1, rfl, c1, ?_⟩)
  have Q1 := RP_f M1 mg9_22 hP
  exact kc_go (k := kk_22) in_k22 rfl (by decide) G1 X1 (vs := [pvR 196, .inl x1]) (xs := [cv (pvR 196), x1.toInt]) ⟨by decide, ⟨⟨pvR 196, rfl, rfl, rfl, ok_this⟩, ⟨.inl x1, rfl, rfl, rfl, ok_full32 _⟩, trivial⟩, trivial, fun c hc => by cases hc⟩ rfl (n := 0) (by decide +kernel) (fun v2 g2 c2 G2 X2 M2 => ⟨v2, rfl, c2, G2, X2, RP_f M2 mg9_23 Q1, fun z => by cases z⟩)
theorem mg9_24 : kk_24.2.2.2.1 &&& mP = 0 := by decide +kernel
theorem mg9_25 : kk_25.2.2.2.1 &&& mP = 0 := by decide +kernel
theorem pw9_evening {g : pH} (hG : g_I eG g) (hx : xL g) (hR : R0 g) (hP : RP g) : pr_ RP 118 187 [] 0 false g := by
  unfold pr_
  refine kc_go (k := kk_24) in_k24 rfl (by decide) hG hx (vs := [pvR 0]) (xs := [cv (pvR 0)]) ⟨by decide, ⟨⟨pvR 0, rfl, rfl, rfl, ok_0⟩, trivial⟩, trivial, fun c hc => by cases hc⟩ rfl (n := 0) (by decide +kernel) (fun v1 g1 c1 G1 X1 M1 => ⟨v1, rfl, c1, ?_⟩)
  have Q1 := RP_f M1 mg9_24 hP
  exact kc_go (k := kk_25) in_k25 rfl (by decide) G1 X1 (vs := [pvR 196]) (xs := [cv (pvR 196)]) ⟨by decide, ⟨⟨pvR 196, rfl, rfl, rfl, ok_this⟩, trivial⟩, trivial, fun c hc => by cases hc⟩ rfl (n := 0) (by decide +kernel) (fun v2 g2 c2 G2 X2 M2 => ⟨v2, rfl, c2, G2, X2, RP_f M2 mg9_25 Q1, fun z => by cases z⟩)
theorem mg9_26 : kk_26.2.2.2.1 &&& mP = 0 := by decide +kernel
theorem mg9_27 : kk_27.2.2.2.1 &&& mP = 0 := by decide +kernel
theorem pw9_tried {g : pH} (hG : g_I eG g) (hx : xL g) (hR : R0 g) (hP : RP g) (x1 : Int32) : pr_ RP 158 265 [.inl x1] 0 false g := by
  unfold pr_
  refine kc_go (k := kk_26) in_k26 rfl (by decide) hG hx (vs := [pvR 0, .inl x1]) (xs := [cv (pvR 0), x1.toInt]) ⟨by decide, ⟨⟨pvR 0, rfl, rfl, rfl, ok_0⟩, ⟨.inl x1, rfl, rfl, rfl, ok_full32 _⟩, trivial⟩, trivial, fun c hc => by cases hc⟩ rfl (n := 0) (by decide +kernel) (fun v1 g1 c1 G1 X1 M1 => ⟨v1, rfl, c1, ?_⟩)
  have Q1 := RP_f M1 mg9_26 hP
  exact kc_go (k := kk_27) in_k27 rfl (by decide) G1 X1 (vs := [pvR 196, .inl x1]) (xs := [cv (pvR 196), x1.toInt]) ⟨by decide, ⟨⟨pvR 196, rfl, rfl, rfl, ok_this⟩, ⟨.inl x1, rfl, rfl, rfl, ok_full32 _⟩, trivial⟩, trivial, fun c hc => by cases hc⟩ rfl (n := 0) (by decide +kernel) (fun v2 g2 c2 G2 X2 M2 => ⟨v2, rfl, c2, G2, X2, RP_f M2 mg9_27 Q1, fun z => by cases z⟩)
theorem mg9_28 : kk_28.2.2.2.1 &&& mP = 0 := by decide +kernel
theorem mg9_29 : kk_29.2.2.2.1 &&& mP = 0 := by decide +kernel
theorem pw9_odds {g : pH} (hG : g_I eG g) (hx : xL g) (hR : R0 g) (hP : RP g) (x1 x2 x3 x4 : Int32) : pr_ RP 137 228 [.inl x1, .inl x2, .inl x3, .inl x4] 0 false g := by
  unfold pr_
  refine kc_go (k := kk_28) in_k28 rfl (by decide) hG hx (vs := [pvR 0, .inl x1, .inl x2, .inl x3, .inl x4]) (xs := [cv (pvR 0), x1.toInt, x2.toInt, x3.toInt, x4.toInt]) ⟨by decide, ⟨⟨pvR 0, rfl, rfl, rfl, ok_0⟩, ⟨.inl x1, rfl, rfl, rfl, ok_full32 _⟩, ⟨.inl x2, rfl, rfl, rfl, ok_full32 _⟩, ⟨.inl x3, rfl, rfl, rfl, ok_full32 _⟩, ⟨.inl x4, rfl, rfl, rfl, ok_full32 _⟩, trivial⟩, trivial, fun c hc => by cases hc⟩ rfl (n := 0) (by decide +kernel) (fun v1 g1 c1 G1 X1 M1 => ⟨v1, rfl, c1, ?_⟩)
  have Q1 := RP_f M1 mg9_28 hP
  exact kc_go (k := kk_29) in_k29 rfl (by decide) G1 X1 (vs := [pvR 196, .inl x1, .inl x2, .inl x3, .inl x4]) (xs := [cv (pvR 196), x1.toInt, x2.toInt, x3.toInt, x4.toInt]) ⟨by decide, ⟨⟨pvR 196, rfl, rfl, rfl, ok_this⟩, ⟨.inl x1, rfl, rfl, rfl, ok_full32 _⟩, ⟨.inl x2, rfl, rfl, rfl, ok_full32 _⟩, ⟨.inl x3, rfl, rfl, rfl, ok_full32 _⟩, ⟨.inl x4, rfl, rfl, rfl, ok_full32 _⟩, trivial⟩, trivial, fun c hc => by cases hc⟩ rfl (n := 0) (by decide +kernel) (fun v2 g2 c2 G2 X2 M2 => ⟨v2, rfl, c2, G2, X2, RP_f M2 mg9_29 Q1, fun z => by cases z⟩)
theorem mg9_30 : kk_30.2.2.2.1 &&& mP = 0 := by decide +kernel
theorem mg9_31 : kk_31.2.2.2.1 &&& mP = 0 := by decide +kernel
theorem pw9_toTurn {g : pH} (hG : g_I eG g) (hx : xL g) (hR : R0 g) (hP : RP g) (x1 x2 : Int32) : pr_ RP 156 263 [.inl x1, .inl x2] 1 false g := by
  unfold pr_
  refine kc_go (k := kk_30) in_k30 rfl (by decide) hG hx (vs := [pvR 0, .inl x1, .inl x2]) (xs := [cv (pvR 0), x1.toInt, x2.toInt]) ⟨by decide, ⟨⟨pvR 0, rfl, rfl, rfl, ok_0⟩, ⟨.inl x1, rfl, rfl, rfl, ok_full32 _⟩, ⟨.inl x2, rfl, rfl, rfl, ok_full32 _⟩, trivial⟩, trivial, fun c hc => by cases hc⟩ rfl (n := 1) (by decide +kernel) (fun v1 g1 c1 G1 X1 M1 => ⟨v1, rfl, c1, ?_⟩)
  have Q1 := RP_f M1 mg9_30 hP
  exact kc_go (k := kk_31) in_k31 rfl (by decide) G1 X1 (vs := [pvR 196, .inl x1, .inl x2]) (xs := [cv (pvR 196), x1.toInt, x2.toInt]) ⟨by decide, ⟨⟨pvR 196, rfl, rfl, rfl, ok_this⟩, ⟨.inl x1, rfl, rfl, rfl, ok_full32 _⟩, ⟨.inl x2, rfl, rfl, rfl, ok_full32 _⟩, trivial⟩, trivial, fun c hc => by cases hc⟩ rfl (n := 1) (by decide +kernel) (fun v2 g2 c2 G2 X2 M2 => ⟨v2, rfl, c2, G2, X2, RP_f M2 mg9_31 Q1, fun z => by cases z⟩)
theorem mg9_32 : kk_32.2.2.2.1 &&& mP = 0 := by decide +kernel
theorem mg9_33 : kk_33.2.2.2.1 &&& mP = 0 := by decide +kernel
theorem pw9_leave {g : pH} (hG : g_I eG g) (hx : xL g) (hR : R0 g) (hP : RP g) (x1 x2 : Int32) : pr_ RP 130 217 [.inl x1, .inl x2] 1 false g := by
  unfold pr_
  refine kc_go (k := kk_32) in_k32 rfl (by decide) hG hx (vs := [pvR 0, .inl x1, .inl x2]) (xs := [cv (pvR 0), x1.toInt, x2.toInt]) ⟨by decide, ⟨⟨pvR 0, rfl, rfl, rfl, ok_0⟩, ⟨.inl x1, rfl, rfl, rfl, ok_full32 _⟩, ⟨.inl x2, rfl, rfl, rfl, ok_full32 _⟩, trivial⟩, trivial, fun c hc => by cases hc⟩ rfl (n := 1) (by decide +kernel) (fun v1 g1 c1 G1 X1 M1 => ⟨v1, rfl, c1, ?_⟩)
  have Q1 := RP_f M1 mg9_32 hP
  exact kc_go (k := kk_33) in_k33 rfl (by decide) G1 X1 (vs := [pvR 196, .inl x1, .inl x2]) (xs := [cv (pvR 196), x1.toInt, x2.toInt]) ⟨by decide, ⟨⟨pvR 196, rfl, rfl, rfl, ok_this⟩, ⟨.inl x1, rfl, rfl, rfl, ok_full32 _⟩, ⟨.inl x2, rfl, rfl, rfl, ok_full32 _⟩, trivial⟩, trivial, fun c hc => by cases hc⟩ rfl (n := 1) (by decide +kernel) (fun v2 g2 c2 G2 X2 M2 => ⟨v2, rfl, c2, G2, X2, RP_f M2 mg9_33 Q1, fun z => by cases z⟩)
theorem mg9_34 : kk_36.2.2.2.1 &&& mP = 0 := by decide +kernel
theorem mg9_35 : kk_37.2.2.2.1 &&& mP = 0 := by decide +kernel
theorem pw9_sure {g : pH} (hG : g_I eG g) (hx : xL g) (hR : R0 g) (hP : RP g) (x1 x2 : Int32) : pr_ RP 150 258 [.inl x1, .inl x2] 0 false g := by
  unfold pr_
  refine kc_go (k := kk_36) in_k36 rfl (by decide) hG hx (vs := [pvR 0, .inl x1, .inl x2]) (xs := [cv (pvR 0), x1.toInt, x2.toInt]) ⟨by decide, ⟨⟨pvR 0, rfl, rfl, rfl, ok_0⟩, ⟨.inl x1, rfl, rfl, rfl, ok_full32 _⟩, ⟨.inl x2, rfl, rfl, rfl, ok_full32 _⟩, trivial⟩, trivial, fun c hc => by cases hc⟩ rfl (n := 0) (by decide +kernel) (fun v1 g1 c1 G1 X1 M1 => ⟨v1, rfl, c1, ?_⟩)
  have Q1 := RP_f M1 mg9_34 hP
  exact kc_go (k := kk_37) in_k37 rfl (by decide) G1 X1 (vs := [pvR 196, .inl x1, .inl x2]) (xs := [cv (pvR 196), x1.toInt, x2.toInt]) ⟨by decide, ⟨⟨pvR 196, rfl, rfl, rfl, ok_this⟩, ⟨.inl x1, rfl, rfl, rfl, ok_full32 _⟩, ⟨.inl x2, rfl, rfl, rfl, ok_full32 _⟩, trivial⟩, trivial, fun c hc => by cases hc⟩ rfl (n := 0) (by decide +kernel) (fun v2 g2 c2 G2 X2 M2 => ⟨v2, rfl, c2, G2, X2, RP_f M2 mg9_35 Q1, fun z => by cases z⟩)
theorem mg9_36 : kk_38.2.2.2.1 &&& mP = 0 := by decide +kernel
theorem mg9_37 : kk_39.2.2.2.1 &&& mP = 0 := by decide +kernel
theorem pw9_dots {g : pH} (hG : g_I eG g) (hx : xL g) (hR : R0 g) (hP : RP g) (x1 x2 : Int32) : pr_ RP 117 184 [.inl x1, .inl x2] 0 false g := by
  unfold pr_
  refine kc_go (k := kk_38) in_k38 rfl (by decide) hG hx (vs := [pvR 0, .inl x1, .inl x2]) (xs := [cv (pvR 0), x1.toInt, x2.toInt]) ⟨by decide, ⟨⟨pvR 0, rfl, rfl, rfl, ok_0⟩, ⟨.inl x1, rfl, rfl, rfl, ok_full32 _⟩, ⟨.inl x2, rfl, rfl, rfl, ok_full32 _⟩, trivial⟩, trivial, fun c hc => by cases hc⟩ rfl (n := 0) (by decide +kernel) (fun v1 g1 c1 G1 X1 M1 => ⟨v1, rfl, c1, ?_⟩)
  have Q1 := RP_f M1 mg9_36 hP
  exact kc_go (k := kk_39) in_k39 rfl (by decide) G1 X1 (vs := [pvR 196, .inl x1, .inl x2]) (xs := [cv (pvR 196), x1.toInt, x2.toInt]) ⟨by decide, ⟨⟨pvR 196, rfl, rfl, rfl, ok_this⟩, ⟨.inl x1, rfl, rfl, rfl, ok_full32 _⟩, ⟨.inl x2, rfl, rfl, rfl, ok_full32 _⟩, trivial⟩, trivial, fun c hc => by cases hc⟩ rfl (n := 0) (by decide +kernel) (fun v2 g2 c2 G2 X2 M2 => ⟨v2, rfl, c2, G2, X2, RP_f M2 mg9_37 Q1, fun z => by cases z⟩)
theorem mg9_38 : kk_34.2.2.2.1 &&& mP = 0 := by decide +kernel
theorem mg9_39 : kk_35.2.2.2.1 &&& mP = 0 := by decide +kernel
theorem pw9_lightBox {g : pH} (hG : g_I eG g) (hx : xL g) (hR : R0 g) (hP : RP g) (x1 x2 : Int32) : pr_ RP 132 219 [.inl x1, .inl x2] 1 false g := by
  unfold pr_
  refine kc_go (k := kk_34) in_k34 rfl (by decide) hG hx (vs := [pvR 0, .inl x1, .inl x2]) (xs := [cv (pvR 0), x1.toInt, x2.toInt]) ⟨by decide, ⟨⟨pvR 0, rfl, rfl, rfl, ok_0⟩, ⟨.inl x1, rfl, rfl, rfl, ok_full32 _⟩, ⟨.inl x2, rfl, rfl, rfl, ok_full32 _⟩, trivial⟩, trivial, fun c hc => by cases hc⟩ rfl (n := 1) (by decide +kernel) (fun v1 g1 c1 G1 X1 M1 => ⟨v1, rfl, c1, ?_⟩)
  have Q1 := RP_f M1 mg9_38 hP
  exact kc_go (k := kk_35) in_k35 rfl (by decide) G1 X1 (vs := [pvR 196, .inl x1, .inl x2]) (xs := [cv (pvR 196), x1.toInt, x2.toInt]) ⟨by decide, ⟨⟨pvR 196, rfl, rfl, rfl, ok_this⟩, ⟨.inl x1, rfl, rfl, rfl, ok_full32 _⟩, ⟨.inl x2, rfl, rfl, rfl, ok_full32 _⟩, trivial⟩, trivial, fun c hc => by cases hc⟩ rfl (n := 1) (by decide +kernel) (fun v2 g2 c2 G2 X2 M2 => ⟨v2, rfl, c2, G2, X2, RP_f M2 mg9_39 Q1, fun z => by cases z⟩)
theorem mg9_40 : kk_42.2.2.2.1 &&& mP = 0 := by decide +kernel
theorem mg9_41 : Ws &&& mP = 0 := by decide +kernel
theorem pw9_spilt {g : pH} (hG : g_I eG g) (hx : xL g) (hR : R0 g) (hP : RP g) (x1 x2 : Int32) : pr_ RP 149 254 [.inl x1, .inl x2] 1 false g := by
  unfold pr_
  refine kc_go (k := kk_42) in_k42 rfl (by decide) hG hx (vs := [pvR 0, .inl x1, .inl x2]) (xs := [cv (pvR 0), x1.toInt, x2.toInt]) ⟨by decide, ⟨⟨pvR 0, rfl, rfl, rfl, ok_0⟩, ⟨.inl x1, rfl, rfl, rfl, ok_full32 _⟩, ⟨.inl x2, rfl, rfl, rfl, ok_full32 _⟩, trivial⟩, trivial, fun c hc => by cases hc⟩ rfl (n := 1) (by decide +kernel) (fun v1 g1 c1 G1 X1 M1 => ⟨v1, rfl, c1, ?_⟩)
  have Q1 := RP_f M1 mg9_40 hP
  exact sp9_run (n := x1.toInt) (w := x2.toInt) (by decide) G1 (i32_b _) (i32_b _) (fun z2 g2 v2 J2 t2 => ⟨_, rfl, rfl, J2.1, xL_K _ _ _ J2.2 Ws_1.2.1 X1, RP_f J2.2 mg9_41 Q1, fun z => by cases z⟩) (fun v2 z2 => ⟨_, rfl, rfl, G1, X1, Q1, fun z => by cases z⟩) rfl (congrArg some (oI_r x1)) (congrArg some (oI_r x2))
theorem mg9_42 : kk_43.2.2.2.1 &&& mP = 0 := by decide +kernel
theorem pw9_says {g : pH} (hG : g_I eG g) (hx : xL g) (hR : R0 g) (hP : RP g) (x1 x2 x3 x4 : Int32) : pr_ RP 142 243 [.inl x1, .inl x2, .inl x3, .inl x4] 1 false g := by
  unfold pr_
  refine kc_go (k := kk_43) in_k43 rfl (by decide) hG hx (vs := [pvR 0, .inl x1, .inl x2, .inl x3, .inl x4]) (xs := [cv (pvR 0), x1.toInt, x2.toInt, x3.toInt, x4.toInt]) ⟨by decide, ⟨⟨pvR 0, rfl, rfl, rfl, ok_0⟩, ⟨.inl x1, rfl, rfl, rfl, ok_full32 _⟩, ⟨.inl x2, rfl, rfl, rfl, ok_full32 _⟩, ⟨.inl x3, rfl, rfl, rfl, ok_full32 _⟩, ⟨.inl x4, rfl, rfl, rfl, ok_full32 _⟩, trivial⟩, trivial, fun c hc => by cases hc⟩ rfl (n := 1) (by decide +kernel) (fun v1 g1 c1 G1 X1 M1 => ⟨v1, rfl, c1, ?_⟩)
  have Q1 := RP_f M1 mg9_42 hP
  exact sy9_run (n := x1.toInt) (i := x2.toInt) (j := x3.toInt) (w := x4.toInt) (by decide) G1 (i32_b _) (i32_b _) (i32_b _) (i32_b _) (fun z2 g2 v2 J2 t2 => ⟨_, rfl, rfl, J2.1, xL_K _ _ _ J2.2 Ws_1.2.1 X1, RP_f J2.2 mg9_41 Q1, fun z => by cases z⟩) (fun v2 z2 => ⟨_, rfl, rfl, G1, X1, Q1, fun z => by cases z⟩) rfl (congrArg some (oI_r x1)) (congrArg some (oI_r x2)) (congrArg some (oI_r x3)) (congrArg some (oI_r x4))
theorem mg9_43 : kk_44.2.2.2.1 &&& mP = 0 := by decide +kernel
theorem mg9_44 : kk_45.2.2.2.1 &&& mP = 0 := by decide +kernel
theorem pw9_shadow {g : pH} (hG : g_I eG g) (hx : xL g) (hR : R0 g) (hP : RP g) (x1 x2 x3 : Int32) : pr_ RP 145 246 [.inl x1, .inl x2, .inl x3] 0 false g := by
  unfold pr_
  refine kc_go (k := kk_44) in_k44 rfl (by decide) hG hx (vs := [pvR 0, .inl x1, .inl x2, .inl x3]) (xs := [cv (pvR 0), x1.toInt, x2.toInt, x3.toInt]) ⟨by decide, ⟨⟨pvR 0, rfl, rfl, rfl, ok_0⟩, ⟨.inl x1, rfl, rfl, rfl, ok_full32 _⟩, ⟨.inl x2, rfl, rfl, rfl, ok_full32 _⟩, ⟨.inl x3, rfl, rfl, rfl, ok_full32 _⟩, trivial⟩, trivial, fun c hc => by cases hc⟩ rfl (n := 0) (by decide +kernel) (fun v1 g1 c1 G1 X1 M1 => ⟨v1, rfl, c1, ?_⟩)
  have Q1 := RP_f M1 mg9_43 hP
  exact kc_go (k := kk_45) in_k45 rfl (by decide) G1 X1 (vs := [pvR 196, .inl x1, .inl x2, .inl x3]) (xs := [cv (pvR 196), x1.toInt, x2.toInt, x3.toInt]) ⟨by decide, ⟨⟨pvR 196, rfl, rfl, rfl, ok_this⟩, ⟨.inl x1, rfl, rfl, rfl, ok_full32 _⟩, ⟨.inl x2, rfl, rfl, rfl, ok_full32 _⟩, ⟨.inl x3, rfl, rfl, rfl, ok_full32 _⟩, trivial⟩, trivial, fun c hc => by cases hc⟩ rfl (n := 0) (by decide +kernel) (fun v2 g2 c2 G2 X2 M2 => ⟨v2, rfl, c2, G2, X2, RP_f M2 mg9_44 Q1, fun z => by cases z⟩)
theorem mg9_45 : kk_48.2.2.2.1 &&& mP = 0 := by decide +kernel
theorem mg9_46 : kk_49.2.2.2.1 &&& mP = 0 := by decide +kernel
theorem pw9_leftOut {g : pH} (hG : g_I eG g) (hx : xL g) (hR : R0 g) (hP : RP g) (x1 x2 : Int32) : pr_ RP 131 218 [.inl x1, .inl x2] 0 false g := by
  unfold pr_
  refine kc_go (k := kk_48) in_k48 rfl (by decide) hG hx (vs := [pvR 0, .inl x1, .inl x2]) (xs := [cv (pvR 0), x1.toInt, x2.toInt]) ⟨by decide, ⟨⟨pvR 0, rfl, rfl, rfl, ok_0⟩, ⟨.inl x1, rfl, rfl, rfl, ok_full32 _⟩, ⟨.inl x2, rfl, rfl, rfl, ok_full32 _⟩, trivial⟩, trivial, fun c hc => by cases hc⟩ rfl (n := 0) (by decide +kernel) (fun v1 g1 c1 G1 X1 M1 => ⟨v1, rfl, c1, ?_⟩)
  have Q1 := RP_f M1 mg9_45 hP
  exact kc_go (k := kk_49) in_k49 rfl (by decide) G1 X1 (vs := [pvR 196, .inl x1, .inl x2]) (xs := [cv (pvR 196), x1.toInt, x2.toInt]) ⟨by decide, ⟨⟨pvR 196, rfl, rfl, rfl, ok_this⟩, ⟨.inl x1, rfl, rfl, rfl, ok_full32 _⟩, ⟨.inl x2, rfl, rfl, rfl, ok_full32 _⟩, trivial⟩, trivial, fun c hc => by cases hc⟩ rfl (n := 0) (by decide +kernel) (fun v2 g2 c2 G2 X2 M2 => ⟨v2, rfl, c2, G2, X2, RP_f M2 mg9_46 Q1, fun z => by cases z⟩)
theorem mg9_47 : kk_50.2.2.2.1 &&& mP = 0 := by decide +kernel
theorem mg9_48 : kk_51.2.2.2.1 &&& mP = 0 := by decide +kernel
theorem pw9_lamp {g : pH} (hG : g_I eG g) (hx : xL g) (hR : R0 g) (hP : RP g) (x1 x2 x3 : Int32) : pr_ RP 127 210 [.inl x1, .inl x2, .inl x3] 1 false g := by
  unfold pr_
  refine kc_go (k := kk_50) in_k50 rfl (by decide) hG hx (vs := [pvR 0, .inl x1, .inl x2, .inl x3]) (xs := [cv (pvR 0), x1.toInt, x2.toInt, x3.toInt]) ⟨by decide, ⟨⟨pvR 0, rfl, rfl, rfl, ok_0⟩, ⟨.inl x1, rfl, rfl, rfl, ok_full32 _⟩, ⟨.inl x2, rfl, rfl, rfl, ok_full32 _⟩, ⟨.inl x3, rfl, rfl, rfl, ok_full32 _⟩, trivial⟩, trivial, fun c hc => by cases hc⟩ rfl (n := 1) (by decide +kernel) (fun v1 g1 c1 G1 X1 M1 => ⟨v1, rfl, c1, ?_⟩)
  have Q1 := RP_f M1 mg9_47 hP
  exact kc_go (k := kk_51) in_k51 rfl (by decide) G1 X1 (vs := [pvR 196, .inl x1, .inl x2, .inl x3]) (xs := [cv (pvR 196), x1.toInt, x2.toInt, x3.toInt]) ⟨by decide, ⟨⟨pvR 196, rfl, rfl, rfl, ok_this⟩, ⟨.inl x1, rfl, rfl, rfl, ok_full32 _⟩, ⟨.inl x2, rfl, rfl, rfl, ok_full32 _⟩, ⟨.inl x3, rfl, rfl, rfl, ok_full32 _⟩, trivial⟩, trivial, fun c hc => by cases hc⟩ rfl (n := 1) (by decide +kernel) (fun v2 g2 c2 G2 X2 M2 => ⟨v2, rfl, c2, G2, X2, RP_f M2 mg9_48 Q1, fun z => by cases z⟩)
theorem mg9_49 : kk_52.2.2.2.1 &&& mP = 0 := by decide +kernel
theorem mg9_50 : kk_53.2.2.2.1 &&& mP = 0 := by decide +kernel
theorem pw9_hand {g : pH} (hG : g_I eG g) (hx : xL g) (hR : R0 g) (hP : RP g) (x1 : Int32) : pr_ RP 121 195 [.inl x1] 1 false g := by
  unfold pr_
  refine kc_go (k := kk_52) in_k52 rfl (by decide) hG hx (vs := [pvR 0, .inl x1]) (xs := [cv (pvR 0), x1.toInt]) ⟨by decide, ⟨⟨pvR 0, rfl, rfl, rfl, ok_0⟩, ⟨.inl x1, rfl, rfl, rfl, ok_full32 _⟩, trivial⟩, trivial, fun c hc => by cases hc⟩ rfl (n := 1) (by decide +kernel) (fun v1 g1 c1 G1 X1 M1 => ⟨v1, rfl, c1, ?_⟩)
  have Q1 := RP_f M1 mg9_49 hP
  exact kc_go (k := kk_53) in_k53 rfl (by decide) G1 X1 (vs := [pvR 196, .inl x1]) (xs := [cv (pvR 196), x1.toInt]) ⟨by decide, ⟨⟨pvR 196, rfl, rfl, rfl, ok_this⟩, ⟨.inl x1, rfl, rfl, rfl, ok_full32 _⟩, trivial⟩, trivial, fun c hc => by cases hc⟩ rfl (n := 1) (by decide +kernel) (fun v2 g2 c2 G2 X2 M2 => ⟨v2, rfl, c2, G2, X2, RP_f M2 mg9_50 Q1, fun z => by cases z⟩)
theorem mg9_51 : kk_54.2.2.2.1 &&& mP = 0 := by decide +kernel
theorem mg9_52 : Wp &&& mP = 0 := by decide +kernel
theorem pw9_putIn {g : pH} (hG : g_I eG g) (hx : xL g) (hR : R0 g) (hP : RP g) : pr_ RP 140 232 [] 0 false g := by
  unfold pr_
  refine kc_go (k := kk_54) in_k54 rfl (by decide) hG hx (vs := [pvR 0]) (xs := [cv (pvR 0)]) ⟨by decide, ⟨⟨pvR 0, rfl, rfl, rfl, ok_0⟩, trivial⟩, trivial, fun c hc => by cases hc⟩ rfl (n := 0) (by decide +kernel) (fun v1 g1 c1 G1 X1 M1 => ⟨v1, rfl, c1, ?_⟩)
  have Q1 := RP_f M1 mg9_51 hP
  exact pi_run (by decide) (by decide) G1 X1 (fun g2 z2 J2 => ⟨_, rfl, rfl, J2.1, xL_K _ _ _ J2.2 Wp_1.2.2.1 X1, RP_f J2.2 mg9_52 Q1, fun z => by cases z⟩) rfl
theorem mg9_53 : kk_55.2.2.2.1 &&& mP = 0 := by decide +kernel
theorem mg9_54 : kk_56.2.2.2.1 &&& mP = 0 := by decide +kernel
theorem pw9_seed {g : pH} (hG : g_I eG g) (hx : xL g) (hR : R0 g) (hP : RP g) (x1 : Int32) : pr_ RP 144 245 [.inl x1] 0 false g := by
  unfold pr_
  refine kc_go (k := kk_55) in_k55 rfl (by decide) hG hx (vs := [pvR 0, .inl x1]) (xs := [cv (pvR 0), x1.toInt]) ⟨by decide, ⟨⟨pvR 0, rfl, rfl, rfl, ok_0⟩, ⟨.inl x1, rfl, rfl, rfl, ok_full32 _⟩, trivial⟩, trivial, fun c hc => by cases hc⟩ rfl (n := 0) (by decide +kernel) (fun v1 g1 c1 G1 X1 M1 => ⟨v1, rfl, c1, ?_⟩)
  have Q1 := RP_f M1 mg9_53 hP
  exact kc_go (k := kk_56) in_k56 rfl (by decide) G1 X1 (vs := [pvR 196, .inl x1]) (xs := [cv (pvR 196), x1.toInt]) ⟨by decide, ⟨⟨pvR 196, rfl, rfl, rfl, ok_this⟩, ⟨.inl x1, rfl, rfl, rfl, ok_full32 _⟩, trivial⟩, trivial, fun c hc => by cases hc⟩ rfl (n := 0) (by decide +kernel) (fun v2 g2 c2 G2 X2 M2 => ⟨v2, rfl, c2, G2, X2, RP_f M2 mg9_54 Q1, fun z => by cases z⟩)
theorem mg9_55 : kk_61.2.2.2.1 &&& mP = 0 := by decide +kernel
theorem mg9_56 : kk_62.2.2.2.1 &&& mP = 0 := by decide +kernel
theorem pw9_check {g : pH} (hG : g_I eG g) (hx : xL g) (hR : R0 g) (hP : RP g) (x1 x2 : Int32) : pr_ RP 110 174 [.inl x1, .inl x2] 0 false g := by
  unfold pr_
  refine kc_go (k := kk_61) in_k61 rfl (by decide) hG hx (vs := [pvR 0, .inl x1, .inl x2]) (xs := [cv (pvR 0), x1.toInt, x2.toInt]) ⟨by decide, ⟨⟨pvR 0, rfl, rfl, rfl, ok_0⟩, ⟨.inl x1, rfl, rfl, rfl, ok_full32 _⟩, ⟨.inl x2, rfl, rfl, rfl, ok_full32 _⟩, trivial⟩, trivial, fun c hc => by cases hc⟩ rfl (n := 0) (by decide +kernel) (fun v1 g1 c1 G1 X1 M1 => ⟨v1, rfl, c1, ?_⟩)
  have Q1 := RP_f M1 mg9_55 hP
  exact kc_go (k := kk_62) in_k62 rfl (by decide) G1 X1 (vs := [pvR 196, .inl x1, .inl x2]) (xs := [cv (pvR 196), x1.toInt, x2.toInt]) ⟨by decide, ⟨⟨pvR 196, rfl, rfl, rfl, ok_this⟩, ⟨.inl x1, rfl, rfl, rfl, ok_full32 _⟩, ⟨.inl x2, rfl, rfl, rfl, ok_full32 _⟩, trivial⟩, trivial, fun c hc => by cases hc⟩ rfl (n := 0) (by decide +kernel) (fun v2 g2 c2 G2 X2 M2 => ⟨v2, rfl, c2, G2, X2, RP_f M2 mg9_56 Q1, fun z => by cases z⟩)
theorem mg9_57 : kk_63.2.2.2.1 &&& mP = 0 := by decide +kernel
theorem mg9_58 : kk_64.2.2.2.1 &&& mP = 0 := by decide +kernel
theorem pw9_count {g : pH} (hG : g_I eG g) (hx : xL g) (hR : R0 g) (hP : RP g) (x1 : Int32) : pr_ RP 115 182 [.inl x1] 0 false g := by
  unfold pr_
  refine kc_go (k := kk_63) in_k63 rfl (by decide) hG hx (vs := [pvR 0, .inl x1]) (xs := [cv (pvR 0), x1.toInt]) ⟨by decide, ⟨⟨pvR 0, rfl, rfl, rfl, ok_0⟩, ⟨.inl x1, rfl, rfl, rfl, ok_full32 _⟩, trivial⟩, trivial, fun c hc => by cases hc⟩ rfl (n := 0) (by decide +kernel) (fun v1 g1 c1 G1 X1 M1 => ⟨v1, rfl, c1, ?_⟩)
  have Q1 := RP_f M1 mg9_57 hP
  exact kc_go (k := kk_64) in_k64 rfl (by decide) G1 X1 (vs := [pvR 196, .inl x1]) (xs := [cv (pvR 196), x1.toInt]) ⟨by decide, ⟨⟨pvR 196, rfl, rfl, rfl, ok_this⟩, ⟨.inl x1, rfl, rfl, rfl, ok_full32 _⟩, trivial⟩, trivial, fun c hc => by cases hc⟩ rfl (n := 0) (by decide +kernel) (fun v2 g2 c2 G2 X2 M2 => ⟨v2, rfl, c2, G2, X2, RP_f M2 mg9_58 Q1, fun z => by cases z⟩)
theorem mg9_59 : kk_41.2.2.2.1 &&& mP2 = 0 := by decide +kernel
theorem mg9_60 : kk_40.2.2.2.1 &&& mP2 = 0 := by decide +kernel
theorem mg9_61 : kk_41.2.2.2.1 &&& mP3 = 0 := by decide +kernel
theorem mg9_62 : kk_40.2.2.2.1 &&& mP3 = 0 := by decide +kernel
theorem mg9_63 : kk_41.2.2.2.1 &&& mP4 = 0 := by decide +kernel
theorem mg9_64 : kk_40.2.2.2.1 &&& mP4 = 0 := by decide +kernel
theorem mg9_65 : kk_40.2.2.2.1 &&& mR1 = 0 := by decide +kernel
theorem mg9_66 : kk_40.2.2.2.1 &&& mR0 = 0 := by decide +kernel
theorem mg9_67 : kk_40.2.2.2.1 &&& 2 ^ (cn 196 + 22) = 0 := by decide +kernel
theorem mg9_68 : kk_40.2.2.2.1 &&& 2 ^ (cn 206) = 0 := by decide +kernel
theorem mg9_69 : kk_40.2.2.2.1 &&& 2 ^ (cn 207) = 0 := by decide +kernel
theorem mg9_70 : kk_41.2.2.2.1 &&& 2 ^ (cn 70 + 2) = 0 := by decide +kernel
theorem mg9_71 : kk_41.2.2.2.1 &&& 2 ^ (cn 71) = 0 := by decide +kernel
theorem mg9_72 : kk_41.2.2.2.1 &&& 2 ^ (cn 72) = 0 := by decide +kernel
theorem pw9_clue {g : pH} (hG : g_I eG g) (hx : xL g) (hR : R0 g) (hP : RP g) (x1 x2 : Int32) : pr_ RP 111 177 [.inl x1, .inl x2] 0 true g := by
  unfold pr_
  obtain ⟨p1, p2, p3, p4⟩ := hP
  have hc := cb_70_2 hG
  refine cc_cl (i := x1.toInt) (j := x2.toInt) (by decide) hG hR.1.1 (i32_b _) (i32_b _) (fun z1 g1 J1 s1 a1 b1 => ?_) (fun z1 => ?_) rfl (congrArg some (oI_r x1)) (congrArg some (oI_r x2))
  · have y1 : fF g1 22 = fF g 22 := fF_M J1.2 (fr_n J1.2 mg9_67)
    have y2 : fA g1 206 = fA g 206 := fA_M J1.2 (fr_n J1.2 mg9_68)
    have y3 : fA g1 207 = fA g 207 := fA_M J1.2 (fr_n J1.2 mg9_69)
    have Q1 := R0_f J1.2 mg9_66 hR
    refine ⟨_, rfl, rfl, mc_cl (i := x1.toInt) (j := x2.toInt) (by decide) J1.1 (i32_b _) (i32_b _) (fun z2 g2 J2 s2 a2 b2 => ?_) (fun z2 => ?_) rfl (congrArg some (oI_r x1)) (congrArg some (oI_r x2))⟩
    · have y4 : cF g2 70 2 = cF g1 70 2 := cF_M J2.2 (fr_n J2.2 mg9_70)
      have y5 : fA g2 71 = fA g1 71 := fA_M J2.2 (fr_n J2.2 mg9_71)
      have y6 : fA g2 72 = fA g1 72 := fA_M J2.2 (fr_n J2.2 mg9_72)
      refine ⟨_, rfl, rfl, J2.1, xL_K _ _ _ J2.2 Wclm.2.2.2 (xL_K _ _ _ J1.2 Wclc.2.2.2 hx), ⟨⟨?_, ?_⟩, fr_P2 J2.2 mg9_59 (fr_P2 J1.2 mg9_60 p2), fr_P3 J2.2 mg9_61 (fr_P3 J1.2 mg9_62 p3), fr_P4 J2.2 mg9_63 (fr_P4 J1.2 mg9_64 p4)⟩, fun _ => ?_⟩
      · rw [y4, s1, s2, y1, p1.1]
      · rw [y4, s1, y5, y6, a1, b1, a2, b2, y1, y2, y3, ← p1.1]
        exact rwE_add hc.1 p1.2
      · rw [y1, ← p1.1]
    · exact absurd ⟨(to_iff Q1.1).mp ((toC_e J1.2 mg9_65).mp z1.1), (to_iff Q1.1).mp ((toC_e J1.2 mg9_65).mp z1.2.1), z1.2.2.1, by rw [y1, ← p1.1]; exact z1.2.2.2⟩ z2
  · refine ⟨_, rfl, rfl, mc_cl (i := x1.toInt) (j := x2.toInt) (by decide) hG (i32_b _) (i32_b _) (fun z2 g2 J2 s2 a2 b2 => ?_) (fun z2 => ?_) rfl (congrArg some (oI_r x1)) (congrArg some (oI_r x2))⟩
    · exact absurd ⟨(to_iff hR.1).mpr z2.1, (to_iff hR.1).mpr z2.2.1, z2.2.2.1, by rw [p1.1]; exact z2.2.2.2⟩ z1
    · exact ⟨_, rfl, rfl, hG, hx, ⟨p1, p2, p3, p4⟩, fun _ => rfl⟩
theorem mg9_73 : kk_47.2.2.2.1 &&& mP1 = 0 := by decide +kernel
theorem mg9_74 : kk_46.2.2.2.1 &&& mP1 = 0 := by decide +kernel
theorem mg9_75 : kk_47.2.2.2.1 &&& mP3 = 0 := by decide +kernel
theorem mg9_76 : kk_46.2.2.2.1 &&& mP3 = 0 := by decide +kernel
theorem mg9_77 : kk_47.2.2.2.1 &&& mP4 = 0 := by decide +kernel
theorem mg9_78 : kk_46.2.2.2.1 &&& mP4 = 0 := by decide +kernel
theorem mg9_79 : kk_46.2.2.2.1 &&& mR1 = 0 := by decide +kernel
theorem mg9_80 : kk_46.2.2.2.1 &&& mR0 = 0 := by decide +kernel
theorem mg9_81 : kk_46.2.2.2.1 &&& 2 ^ (cn 196 + 23) = 0 := by decide +kernel
theorem mg9_82 : kk_46.2.2.2.1 &&& 2 ^ (cn 208) = 0 := by decide +kernel
theorem mg9_83 : kk_46.2.2.2.1 &&& 2 ^ (cn 209) = 0 := by decide +kernel
theorem mg9_84 : kk_47.2.2.2.1 &&& 2 ^ (cn 73 + 2) = 0 := by decide +kernel
theorem mg9_85 : kk_47.2.2.2.1 &&& 2 ^ (cn 74) = 0 := by decide +kernel
theorem mg9_86 : kk_47.2.2.2.1 &&& 2 ^ (cn 75) = 0 := by decide +kernel
theorem pw9_link {g : pH} (hG : g_I eG g) (hx : xL g) (hR : R0 g) (hP : RP g) (x1 x2 : Int32) : pr_ RP 133 220 [.inl x1, .inl x2] 0 true g := by
  unfold pr_
  obtain ⟨p1, p2, p3, p4⟩ := hP
  have hc := cb_73_2 hG
  refine cc_li (i := x1.toInt) (j := x2.toInt) (by decide) hG hR.1.1 (i32_b _) (i32_b _) (fun z1 g1 J1 s1 a1 b1 => ?_) (fun z1 => ?_) rfl (congrArg some (oI_r x1)) (congrArg some (oI_r x2))
  · have y1 : fF g1 23 = fF g 23 := fF_M J1.2 (fr_n J1.2 mg9_81)
    have y2 : fA g1 208 = fA g 208 := fA_M J1.2 (fr_n J1.2 mg9_82)
    have y3 : fA g1 209 = fA g 209 := fA_M J1.2 (fr_n J1.2 mg9_83)
    have Q1 := R0_f J1.2 mg9_80 hR
    refine ⟨_, rfl, rfl, mc_li (i := x1.toInt) (j := x2.toInt) (by decide) J1.1 (i32_b _) (i32_b _) (fun z2 g2 J2 s2 a2 b2 => ?_) (fun z2 => ?_) rfl (congrArg some (oI_r x1)) (congrArg some (oI_r x2))⟩
    · have y4 : cF g2 73 2 = cF g1 73 2 := cF_M J2.2 (fr_n J2.2 mg9_84)
      have y5 : fA g2 74 = fA g1 74 := fA_M J2.2 (fr_n J2.2 mg9_85)
      have y6 : fA g2 75 = fA g1 75 := fA_M J2.2 (fr_n J2.2 mg9_86)
      refine ⟨_, rfl, rfl, J2.1, xL_K _ _ _ J2.2 Wlim.2.2.2 (xL_K _ _ _ J1.2 Wlic.2.2.2 hx), ⟨fr_P1 J2.2 mg9_73 (fr_P1 J1.2 mg9_74 p1), ⟨?_, ?_⟩, fr_P3 J2.2 mg9_75 (fr_P3 J1.2 mg9_76 p3), fr_P4 J2.2 mg9_77 (fr_P4 J1.2 mg9_78 p4)⟩, fun _ => ?_⟩
      · rw [y4, s1, s2, y1, p2.1]
      · rw [y4, s1, y5, y6, a1, b1, a2, b2, y1, y2, y3, ← p2.1]
        exact rwE_add hc.1 p2.2
      · rw [y1, ← p2.1]
    · exact absurd ⟨(to_iff Q1.1).mp ((toC_e J1.2 mg9_79).mp z1.1), (to_iff Q1.1).mp ((toC_e J1.2 mg9_79).mp z1.2.1), z1.2.2.1, by rw [y1, ← p2.1]; exact z1.2.2.2⟩ z2
  · refine ⟨_, rfl, rfl, mc_li (i := x1.toInt) (j := x2.toInt) (by decide) hG (i32_b _) (i32_b _) (fun z2 g2 J2 s2 a2 b2 => ?_) (fun z2 => ?_) rfl (congrArg some (oI_r x1)) (congrArg some (oI_r x2))⟩
    · exact absurd ⟨(to_iff hR.1).mpr z2.1, (to_iff hR.1).mpr z2.2.1, z2.2.2.1, by rw [p2.1]; exact z2.2.2.2⟩ z1
    · exact ⟨_, rfl, rfl, hG, hx, ⟨p1, p2, p3, p4⟩, fun _ => rfl⟩
theorem mg9_87 : kk_9.2.2.2.1 &&& 2 ^ (cn 70 + 2) = 0 := by decide +kernel
theorem mg9_88 : kk_9.2.2.2.1 &&& 2 ^ (cn 71) = 0 := by decide +kernel
theorem mg9_89 : kk_9.2.2.2.1 &&& 2 ^ (cn 72) = 0 := by decide +kernel
theorem mg9_90 : kk_8.2.2.2.1 &&& 2 ^ (cn 196 + 22) = 0 := by decide +kernel
theorem mg9_91 : kk_8.2.2.2.1 &&& 2 ^ (cn 206) = 0 := by decide +kernel
theorem mg9_92 : kk_8.2.2.2.1 &&& 2 ^ (cn 207) = 0 := by decide +kernel
theorem mg9_93 : kk_9.2.2.2.1 &&& 2 ^ (cn 73 + 2) = 0 := by decide +kernel
theorem mg9_94 : kk_9.2.2.2.1 &&& 2 ^ (cn 74) = 0 := by decide +kernel
theorem mg9_95 : kk_9.2.2.2.1 &&& 2 ^ (cn 75) = 0 := by decide +kernel
theorem mg9_96 : kk_8.2.2.2.1 &&& 2 ^ (cn 196 + 23) = 0 := by decide +kernel
theorem mg9_97 : kk_8.2.2.2.1 &&& 2 ^ (cn 208) = 0 := by decide +kernel
theorem mg9_98 : kk_8.2.2.2.1 &&& 2 ^ (cn 209) = 0 := by decide +kernel
theorem mg9_99 : kk_9.2.2.2.1 &&& mP3 = 0 := by decide +kernel
theorem mg9_100 : kk_8.2.2.2.1 &&& mP3 = 0 := by decide +kernel
theorem mg9_101 : kk_9.2.2.2.1 &&& mP4 = 0 := by decide +kernel
theorem mg9_102 : kk_8.2.2.2.1 &&& mP4 = 0 := by decide +kernel
theorem mg9_103 : kk_8.2.2.2.1 &&& 2 ^ (cn 196 + 0) = 0 := by decide +kernel
theorem Wgx : kk_8.2.2.2.1 &&& eDX = 0 ∧ kk_9.2.2.2.1 &&& eDX = 0 := by decide +kernel
theorem pw9_gone {g : pH} (hG : g_I eG g) (hx : xL g) (hR : R0 g) (hP : RP g) (x1 : Int32) : pr_ RP 120 194 [.inl x1] 0 false g := by
  unfold pr_
  obtain ⟨p1, p2, p3, p4⟩ := hP
  refine cg9_run (i := x1.toInt) (by decide) hG hR.1.1 (i32_b _) (fun z1 g1 J1 D1 D2 => ?_) (fun z1 => ?_) rfl (congrArg some (oI_r x1))
  · have X1 := xL_K _ _ _ J1.2 Wgx.1 hx
    refine ⟨_, rfl, rfl, mg9_run (i := x1.toInt) (by decide) J1.1 (i32_b _) (fun z2 g2 J2 E1 E2 => ?_) (fun z2 => ?_) rfl (congrArg some (oI_r x1))⟩
    · exact ⟨_, rfl, rfl, J2.1, xL_K _ _ _ J2.2 Wgx.2 X1, ⟨gone_w p1 D1 E1 (cF_M J2.2 (fr_n J2.2 mg9_87)) (fA_M J2.2 (fr_n J2.2 mg9_88)) (fA_M J2.2 (fr_n J2.2 mg9_89)) (fF_M J1.2 (fr_n J1.2 mg9_90)) (fA_M J1.2 (fr_n J1.2 mg9_91)) (fA_M J1.2 (fr_n J1.2 mg9_92)), gone_w p2 D2 E2 (cF_M J2.2 (fr_n J2.2 mg9_93)) (fA_M J2.2 (fr_n J2.2 mg9_94)) (fA_M J2.2 (fr_n J2.2 mg9_95)) (fF_M J1.2 (fr_n J1.2 mg9_96)) (fA_M J1.2 (fr_n J1.2 mg9_97)) (fA_M J1.2 (fr_n J1.2 mg9_98)), fr_P3 J2.2 mg9_99 (fr_P3 J1.2 mg9_100 p3), fr_P4 J2.2 mg9_101 (fr_P4 J1.2 mg9_102 p4)⟩, fun z => by cases z⟩
    · exact absurd ((toM_e J1.2 mg9_103).mp ((to_iff hR.1).mp z1)) z2
  · refine ⟨_, rfl, rfl, mg9_run (i := x1.toInt) (by decide) hG (i32_b _) (fun z2 g2 J2 E1 E2 => ?_) (fun z2 => ?_) rfl (congrArg some (oI_r x1))⟩
    · exact absurd ((to_iff hR.1).mpr z2) z1
    · exact ⟨_, rfl, rfl, hG, hx, ⟨p1, p2, p3, p4⟩, fun z => by cases z⟩
theorem mg9_104 : kk_58.2.2.2.1 &&& mP1 = 0 := by decide +kernel
theorem mg9_105 : kk_57.2.2.2.1 &&& mP1 = 0 := by decide +kernel
theorem mg9_106 : kk_58.2.2.2.1 &&& mP2 = 0 := by decide +kernel
theorem mg9_107 : kk_57.2.2.2.1 &&& mP2 = 0 := by decide +kernel
theorem mg9_108 : kk_58.2.2.2.1 &&& 2 ^ (cn 144 + 2) = 0 := by decide +kernel
theorem mg9_109 : kk_58.2.2.2.1 &&& 2 ^ (cn 145) = 0 := by decide +kernel
theorem mg9_110 : kk_58.2.2.2.1 &&& 2 ^ (cn 146) = 0 := by decide +kernel
theorem mg9_111 : kk_57.2.2.2.1 &&& 2 ^ (cn 196 + 22) = 0 := by decide +kernel
theorem mg9_112 : kk_57.2.2.2.1 &&& 2 ^ (cn 206) = 0 := by decide +kernel
theorem mg9_113 : kk_57.2.2.2.1 &&& 2 ^ (cn 207) = 0 := by decide +kernel
theorem mg9_114 : kk_58.2.2.2.1 &&& 2 ^ (cn 147 + 2) = 0 := by decide +kernel
theorem mg9_115 : kk_58.2.2.2.1 &&& 2 ^ (cn 148) = 0 := by decide +kernel
theorem mg9_116 : kk_58.2.2.2.1 &&& 2 ^ (cn 149) = 0 := by decide +kernel
theorem mg9_117 : kk_57.2.2.2.1 &&& 2 ^ (cn 196 + 23) = 0 := by decide +kernel
theorem mg9_118 : kk_57.2.2.2.1 &&& 2 ^ (cn 208) = 0 := by decide +kernel
theorem mg9_119 : kk_57.2.2.2.1 &&& 2 ^ (cn 209) = 0 := by decide +kernel
theorem pw9_keep {g : pH} (hG : g_I eG g) (hx : xL g) (hR : R0 g) (hP : RP g) : pr_ RP 126 209 [] 0 false g := by
  unfold pr_
  obtain ⟨p1, p2, p3, p4⟩ := hP
  refine t_mono (t_and (kc_go (k := kk_57) in_k57 rfl (by decide) hG hx (vs := [pvR 0]) (xs := [cv (pvR 0)]) ⟨by decide, ⟨⟨pvR 0, rfl, rfl, rfl, ok_0⟩, trivial⟩, trivial, fun c hc => by cases hc⟩ rfl (n := 0) (by decide +kernel) (P := fun o3 => ∃ v, o3.1 = some v ∧ ct v = 0 ∧ g_I eG o3.2 ∧ xL o3.2 ∧ f_M kk_57.2.2.2.1 g o3.2) (fun v g1 c G X M => ⟨v, rfl, c, G, X, M⟩)) (ck9_run (P := fun o => cpR 70 71 72 144 145 146 g o.2 ∧ cpR 73 74 75 147 148 149 g o.2) (by decide) (by decide) hG hx (fun r g1 c1 c2 => ⟨c1, c2⟩) rfl)) (fun o ho => ?_)
  obtain ⟨⟨v, h1, h2, G1, X1, M1⟩, C1, C2⟩ := ho
  refine ⟨v, h1, h2, t_mono (t_and (kc_go (k := kk_58) in_k58 rfl (by decide) G1 X1 (vs := [pvR 196]) (xs := [cv (pvR 196)]) ⟨by decide, ⟨⟨pvR 196, rfl, rfl, rfl, ok_this⟩, trivial⟩, trivial, fun c hc => by cases hc⟩ rfl (n := 0) (by decide +kernel) (P := fun o3 => ∃ v, o3.1 = some v ∧ ct v = 0 ∧ g_I eG o3.2 ∧ xL o3.2 ∧ f_M kk_58.2.2.2.1 o.2 o3.2) (fun v g1 c G X M => ⟨v, rfl, c, G, X, M⟩)) (mk9_run (P := fun o2 => cpQ 22 206 207 24 75 249 250 o.2 o2.2 ∧ cpQ 23 208 209 12 76 251 252 o.2 o2.2) (by decide) (by decide) G1 X1 (fun r g1 c1 c2 => ⟨c1, c2⟩) rfl)) (fun o2 ho2 => ?_)⟩
  obtain ⟨⟨w, k1, k2, G2, X2, M2⟩, C3, C4⟩ := ho2
  exact ⟨w, k1, k2, G2, X2, ⟨fr_P1 M2 mg9_104 (fr_P1 M1 mg9_105 p1), fr_P2 M2 mg9_106 (fr_P2 M1 mg9_107 p2), keep_w p1 C1 C3 (cb_70_2 hG) (cF_M M2 (fr_n M2 mg9_108)) (fA_M M2 (fr_n M2 mg9_109)) (fA_M M2 (fr_n M2 mg9_110)) (fF_M M1 (fr_n M1 mg9_111)) (fA_M M1 (fr_n M1 mg9_112)) (fA_M M1 (fr_n M1 mg9_113)), keep_w p2 C2 C4 (cb_73_2 hG) (cF_M M2 (fr_n M2 mg9_114)) (fA_M M2 (fr_n M2 mg9_115)) (fA_M M2 (fr_n M2 mg9_116)) (fF_M M1 (fr_n M1 mg9_117)) (fA_M M1 (fr_n M1 mg9_118)) (fA_M M1 (fr_n M1 mg9_119))⟩, fun z => by cases z⟩
theorem mg9_120 : kk_59.2.2.2.1 &&& 2 ^ (cn 196 + 72) = 0 := by decide +kernel
theorem mg9_121 : kk_60.2.2.2.1 &&& 2 ^ (cn 70 + 2) = 0 := by decide +kernel
theorem mg9_122 : kk_60.2.2.2.1 &&& 2 ^ (cn 71) = 0 := by decide +kernel
theorem mg9_123 : kk_60.2.2.2.1 &&& 2 ^ (cn 72) = 0 := by decide +kernel
theorem mg9_124 : kk_59.2.2.2.1 &&& 2 ^ (cn 196 + 75) = 0 := by decide +kernel
theorem mg9_125 : kk_59.2.2.2.1 &&& 2 ^ (cn 249) = 0 := by decide +kernel
theorem mg9_126 : kk_59.2.2.2.1 &&& 2 ^ (cn 250) = 0 := by decide +kernel
theorem mg9_127 : kk_60.2.2.2.1 &&& 2 ^ (cn 73 + 2) = 0 := by decide +kernel
theorem mg9_128 : kk_60.2.2.2.1 &&& 2 ^ (cn 74) = 0 := by decide +kernel
theorem mg9_129 : kk_60.2.2.2.1 &&& 2 ^ (cn 75) = 0 := by decide +kernel
theorem mg9_130 : kk_59.2.2.2.1 &&& 2 ^ (cn 196 + 76) = 0 := by decide +kernel
theorem mg9_131 : kk_59.2.2.2.1 &&& 2 ^ (cn 251) = 0 := by decide +kernel
theorem mg9_132 : kk_59.2.2.2.1 &&& 2 ^ (cn 252) = 0 := by decide +kernel
theorem mg9_133 : kk_60.2.2.2.1 &&& mP3 = 0 := by decide +kernel
theorem mg9_134 : kk_59.2.2.2.1 &&& mP3 = 0 := by decide +kernel
theorem mg9_135 : kk_60.2.2.2.1 &&& mP4 = 0 := by decide +kernel
theorem mg9_136 : kk_59.2.2.2.1 &&& mP4 = 0 := by decide +kernel
theorem pw9_undo {g : pH} (hG : g_I eG g) (hx : xL g) (hR : R0 g) (hP : RP g) : pr_ RP 160 270 [] 0 false g := by
  unfold pr_
  have hk := hR.1.2.2.2.2
  have hP0 := hP
  obtain ⟨p1, p2, p3, p4⟩ := hP
  refine t_mono (t_and (kc_go (k := kk_59) in_k59 rfl (by decide) hG hx (vs := [pvR 0]) (xs := [cv (pvR 0)]) ⟨by decide, ⟨⟨pvR 0, rfl, rfl, rfl, ok_0⟩, trivial⟩, trivial, fun c hc => by cases hc⟩ rfl (n := 0) (by decide +kernel) (P := fun o3 => ∃ v, o3.1 = some v ∧ ct v = 0 ∧ g_I eG o3.2 ∧ xL o3.2 ∧ f_M kk_59.2.2.2.1 g o3.2) (fun v g1 c G X M => ⟨v, rfl, c, G, X, M⟩)) (cu9_run (P := fun o => (cF g 0 4 ≠ 0 → cpR 144 145 146 70 71 72 g o.2 ∧ cpR 147 148 149 73 74 75 g o.2) ∧ (cF g 0 4 = 0 → f_M 0 g o.2)) (by decide) (by decide) hG hx (fun z r g1 c1 c2 => ⟨fun _ => ⟨c1, c2⟩, fun y => absurd y z⟩) (fun z r g1 c1 => ⟨fun y => absurd z y, fun _ => c1⟩) rfl)) (fun o ho => ?_)
  obtain ⟨⟨v, h1, h2, G1, X1, M1⟩, C1, C2⟩ := ho
  have k9 : cF o.2 196 72 = cF g 196 72 := cF_M M1 (fr_n M1 mg9_120)
  refine ⟨v, h1, h2, t_mono (t_and (kc_go (k := kk_60) in_k60 rfl (by decide) G1 X1 (vs := [pvR 196]) (xs := [cv (pvR 196)]) ⟨by decide, ⟨⟨pvR 196, rfl, rfl, rfl, ok_this⟩, trivial⟩, trivial, fun c hc => by cases hc⟩ rfl (n := 0) (by decide +kernel) (P := fun o3 => ∃ v, o3.1 = some v ∧ ct v = 0 ∧ g_I eG o3.2 ∧ xL o3.2 ∧ f_M kk_60.2.2.2.1 o.2 o3.2) (fun v g1 c G X M => ⟨v, rfl, c, G, X, M⟩)) (mu9_run (P := fun o2 => (cF o.2 196 72 ≠ 0 → cpQ 75 249 250 24 22 206 207 o.2 o2.2 ∧ cpQ 76 251 252 12 23 208 209 o.2 o2.2) ∧ (cF o.2 196 72 = 0 → f_M 0 o.2 o2.2)) (by decide) (by decide) G1 X1 (fun z r g1 c1 c2 => ⟨fun _ => ⟨c1, c2⟩, fun y => absurd y z⟩) (fun z => ⟨fun y => absurd z y, fun _ => (J_rf (W := 0) G1).2⟩) rfl)) (fun o2 ho2 => ?_)⟩
  obtain ⟨⟨w, k1, k2, G2, X2, M2⟩, C3, C4⟩ := ho2
  by_cases hz : cF g 0 4 = 0
  · exact ⟨w, k1, k2, G2, X2, RP_f (C4 (by rw [k9, ← hk]; exact hz)) (Nat.zero_and _) (RP_f (C2 hz) (Nat.zero_and _) hP0), fun z => by cases z⟩
  · have C1 := C1 hz
    have C3 := C3 (by rw [k9, ← hk]; exact hz)
    exact ⟨w, k1, k2, G2, X2, ⟨keep_w p3 C1.1 C3.1 (cb_144_2 hG) (cF_M M2 (fr_n M2 mg9_121)) (fA_M M2 (fr_n M2 mg9_122)) (fA_M M2 (fr_n M2 mg9_123)) (fF_M M1 (fr_n M1 mg9_124)) (fA_M M1 (fr_n M1 mg9_125)) (fA_M M1 (fr_n M1 mg9_126)), keep_w p4 C1.2 C3.2 (cb_147_2 hG) (cF_M M2 (fr_n M2 mg9_127)) (fA_M M2 (fr_n M2 mg9_128)) (fA_M M2 (fr_n M2 mg9_129)) (fF_M M1 (fr_n M1 mg9_130)) (fA_M M1 (fr_n M1 mg9_131)) (fA_M M1 (fr_n M1 mg9_132)), fr_P3 M2 mg9_133 (fr_P3 M1 mg9_134 p3), fr_P4 M2 mg9_135 (fr_P4 M1 mg9_136 p4)⟩, fun z => by cases z⟩
theorem p9_feed {g : pH} (hG : g_I eG g) (hx : xL g) (hR : R9 g) (x1 x2 x3 x4 x5 : Int32) : pr_ R9 119 189 [.inl x1, .inl x2, .inl x3, .inl x4, .inl x5] 0 true g := by
  have h := pr_and (q := true) (q' := false) (pr_feed hG hx hR.1 x1 x2 x3 x4 x5) (pw9_feed hG hx hR.1 hR.2 x1 x2 x3 x4 x5)
  exact h
theorem p9_slide {g : pH} (hG : g_I eG g) (hx : xL g) (hR : R9 g) (x1 x2 x3 x4 : Int32) : pr_ R9 147 251 [.inl x1, .inl x2, .inl x3, .inl x4] 0 true g := by
  have h := pr_and (q := true) (q' := false) (pr_slide hG hx hR.1 x1 x2 x3 x4) (pw9_slide hG hx hR.1 hR.2 x1 x2 x3 x4)
  exact h
theorem p9_put {g : pH} (hG : g_I eG g) (hx : xL g) (hR : R9 g) (x1 x2 : Int32) : pr_ R9 139 231 [.inl x1, .inl x2] 0 true g := by
  have h := pr_and (q := true) (q' := false) (pr_put hG hx hR.1 x1 x2) (pw9_put hG hx hR.1 hR.2 x1 x2)
  exact h
theorem p9_day {g : pH} (hG : g_I eG g) (hx : xL g) (hR : R9 g) (x1 x2 : Int32) : pr_ R9 116 183 [.inl x1, .inl x2] 0 true g := by
  have h := pr_and (q := true) (q' := false) (pr_day hG hx hR.1 x1 x2) (pw9_day hG hx hR.1 hR.2 x1 x2)
  exact h
theorem p9_gone {g : pH} (hG : g_I eG g) (hx : xL g) (hR : R9 g) (x1 : Int32) : pr_ R9 120 194 [.inl x1] 0 true g := by
  have h := pr_and (q := true) (q' := false) (pr_gone hG hx hR.1 x1) (pw9_gone hG hx hR.1 hR.2 x1)
  exact h
theorem p9_looker {g : pH} (hG : g_I eG g) (hx : xL g) (hR : R9 g) (x1 x2 x3 : Int32) : pr_ R9 134 221 [.inl x1, .inl x2, .inl x3] 0 false g := by
  have h := pr_and (q := false) (q' := false) (pr_looker hG hx hR.1 x1 x2 x3) (pw9_looker hG hx hR.1 hR.2 x1 x2 x3)
  exact h
theorem p9_lamps {g : pH} (hG : g_I eG g) (hx : xL g) (hR : R9 g) (x1 : Int32) : pr_ R9 128 211 [.inl x1] 0 false g := by
  have h := pr_and (q := false) (q' := false) (pr_lamps hG hx hR.1 x1) (pw9_lamps hG hx hR.1 hR.2 x1)
  exact h
theorem p9_tray {g : pH} (hG : g_I eG g) (hx : xL g) (hR : R9 g) (x1 : Int32) : pr_ R9 157 264 [.inl x1] 0 false g := by
  have h := pr_and (q := false) (q' := false) (pr_tray hG hx hR.1 x1) (pw9_tray hG hx hR.1 hR.2 x1)
  exact h
theorem p9_law {g : pH} (hG : g_I eG g) (hx : xL g) (hR : R9 g) (x1 : Int32) : pr_ R9 129 213 [.inl x1] 0 false g := by
  have h := pr_and (q := false) (q' := false) (pr_law hG hx hR.1 x1) (pw9_law hG hx hR.1 hR.2 x1)
  exact h
theorem p9_ways {g : pH} (hG : g_I eG g) (hx : xL g) (hR : R9 g) (x1 x2 x3 : Int32) : pr_ R9 164 273 [.inl x1, .inl x2, .inl x3] 0 false g := by
  have h := pr_and (q := false) (q' := false) (pr_ways hG hx hR.1 x1 x2 x3) (pw9_ways hG hx hR.1 hR.2 x1 x2 x3)
  exact h
theorem p9_shown {g : pH} (hG : g_I eG g) (hx : xL g) (hR : R9 g) (x1 x2 x3 : Int32) : pr_ R9 146 247 [.inl x1, .inl x2, .inl x3] 0 false g := by
  have h := pr_and (q := false) (q' := false) (pr_shown hG hx hR.1 x1 x2 x3) (pw9_shown hG hx hR.1 hR.2 x1 x2 x3)
  exact h
theorem p9_slideIs {g : pH} (hG : g_I eG g) (hx : xL g) (hR : R9 g) (x1 x2 : Int32) : pr_ R9 148 252 [.inl x1, .inl x2] 0 false g := by
  have h := pr_and (q := false) (q' := false) (pr_slideIs hG hx hR.1 x1 x2) (pw9_slideIs hG hx hR.1 hR.2 x1 x2)
  exact h
theorem p9_inTray {g : pH} (hG : g_I eG g) (hx : xL g) (hR : R9 g) (x1 : Int32) : pr_ R9 122 200 [.inl x1] 0 false g := by
  have h := pr_and (q := false) (q' := false) (pr_inTray hG hx hR.1 x1) (pw9_inTray hG hx hR.1 hR.2 x1)
  exact h
theorem p9_evening {g : pH} (hG : g_I eG g) (hx : xL g) (hR : R9 g) : pr_ R9 118 187 [] 0 false g := by
  have h := pr_and (q := false) (q' := false) (pr_evening hG hx hR.1) (pw9_evening hG hx hR.1 hR.2)
  exact h
theorem p9_tried {g : pH} (hG : g_I eG g) (hx : xL g) (hR : R9 g) (x1 : Int32) : pr_ R9 158 265 [.inl x1] 0 false g := by
  have h := pr_and (q := false) (q' := false) (pr_tried hG hx hR.1 x1) (pw9_tried hG hx hR.1 hR.2 x1)
  exact h
theorem p9_odds {g : pH} (hG : g_I eG g) (hx : xL g) (hR : R9 g) (x1 x2 x3 x4 : Int32) : pr_ R9 137 228 [.inl x1, .inl x2, .inl x3, .inl x4] 0 false g := by
  have h := pr_and (q := false) (q' := false) (pr_odds hG hx hR.1 x1 x2 x3 x4) (pw9_odds hG hx hR.1 hR.2 x1 x2 x3 x4)
  exact h
theorem p9_toTurn {g : pH} (hG : g_I eG g) (hx : xL g) (hR : R9 g) (x1 x2 : Int32) : pr_ R9 156 263 [.inl x1, .inl x2] 1 false g := by
  have h := pr_and (q := false) (q' := false) (pr_toTurn hG hx hR.1 x1 x2) (pw9_toTurn hG hx hR.1 hR.2 x1 x2)
  exact h
theorem p9_leave {g : pH} (hG : g_I eG g) (hx : xL g) (hR : R9 g) (x1 x2 : Int32) : pr_ R9 130 217 [.inl x1, .inl x2] 1 false g := by
  have h := pr_and (q := false) (q' := false) (pr_leave hG hx hR.1 x1 x2) (pw9_leave hG hx hR.1 hR.2 x1 x2)
  exact h
theorem p9_sure {g : pH} (hG : g_I eG g) (hx : xL g) (hR : R9 g) (x1 x2 : Int32) : pr_ R9 150 258 [.inl x1, .inl x2] 0 true g := by
  have h := pr_and (q := true) (q' := false) (pr_sure hG hx hR.1 x1 x2) (pw9_sure hG hx hR.1 hR.2 x1 x2)
  exact h
theorem p9_dots {g : pH} (hG : g_I eG g) (hx : xL g) (hR : R9 g) (x1 x2 : Int32) : pr_ R9 117 184 [.inl x1, .inl x2] 0 false g := by
  have h := pr_and (q := false) (q' := false) (pr_dots hG hx hR.1 x1 x2) (pw9_dots hG hx hR.1 hR.2 x1 x2)
  exact h
theorem p9_lightBox {g : pH} (hG : g_I eG g) (hx : xL g) (hR : R9 g) (x1 x2 : Int32) : pr_ R9 132 219 [.inl x1, .inl x2] 1 false g := by
  have h := pr_and (q := false) (q' := false) (pr_lightBox hG hx hR.1 x1 x2) (pw9_lightBox hG hx hR.1 hR.2 x1 x2)
  exact h
theorem p9_clue {g : pH} (hG : g_I eG g) (hx : xL g) (hR : R9 g) (x1 x2 : Int32) : pr_ R9 111 177 [.inl x1, .inl x2] 0 true g := by
  have h := pr_and (q := false) (q' := true) (pr_clue hG hx hR.1 x1 x2) (pw9_clue hG hx hR.1 hR.2 x1 x2)
  exact h
theorem p9_spilt {g : pH} (hG : g_I eG g) (hx : xL g) (hR : R9 g) (x1 x2 : Int32) : pr_ R9 149 254 [.inl x1, .inl x2] 1 false g := by
  have h := pr_and (q := false) (q' := false) (pr_spilt hG hx hR.1 x1 x2) (pw9_spilt hG hx hR.1 hR.2 x1 x2)
  exact h
theorem p9_says {g : pH} (hG : g_I eG g) (hx : xL g) (hR : R9 g) (x1 x2 x3 x4 : Int32) : pr_ R9 142 243 [.inl x1, .inl x2, .inl x3, .inl x4] 1 false g := by
  have h := pr_and (q := false) (q' := false) (pr_says hG hx hR.1 x1 x2 x3 x4) (pw9_says hG hx hR.1 hR.2 x1 x2 x3 x4)
  exact h
theorem p9_shadow {g : pH} (hG : g_I eG g) (hx : xL g) (hR : R9 g) (x1 x2 x3 : Int32) : pr_ R9 145 246 [.inl x1, .inl x2, .inl x3] 0 false g := by
  have h := pr_and (q := false) (q' := false) (pr_shadow hG hx hR.1 x1 x2 x3) (pw9_shadow hG hx hR.1 hR.2 x1 x2 x3)
  exact h
theorem p9_link {g : pH} (hG : g_I eG g) (hx : xL g) (hR : R9 g) (x1 x2 : Int32) : pr_ R9 133 220 [.inl x1, .inl x2] 0 true g := by
  have h := pr_and (q := false) (q' := true) (pr_link hG hx hR.1 x1 x2) (pw9_link hG hx hR.1 hR.2 x1 x2)
  exact h
theorem p9_leftOut {g : pH} (hG : g_I eG g) (hx : xL g) (hR : R9 g) (x1 x2 : Int32) : pr_ R9 131 218 [.inl x1, .inl x2] 0 false g := by
  have h := pr_and (q := false) (q' := false) (pr_leftOut hG hx hR.1 x1 x2) (pw9_leftOut hG hx hR.1 hR.2 x1 x2)
  exact h
theorem p9_lamp {g : pH} (hG : g_I eG g) (hx : xL g) (hR : R9 g) (x1 x2 x3 : Int32) : pr_ R9 127 210 [.inl x1, .inl x2, .inl x3] 1 false g := by
  have h := pr_and (q := false) (q' := false) (pr_lamp hG hx hR.1 x1 x2 x3) (pw9_lamp hG hx hR.1 hR.2 x1 x2 x3)
  exact h
theorem p9_hand {g : pH} (hG : g_I eG g) (hx : xL g) (hR : R9 g) (x1 : Int32) : pr_ R9 121 195 [.inl x1] 1 false g := by
  have h := pr_and (q := false) (q' := false) (pr_hand hG hx hR.1 x1) (pw9_hand hG hx hR.1 hR.2 x1)
  exact h
theorem p9_putIn {g : pH} (hG : g_I eG g) (hx : xL g) (hR : R9 g) : pr_ R9 140 232 [] 0 false g := by
  have h := pr_and (q := false) (q' := false) (pr_putIn hG hx hR.1) (pw9_putIn hG hx hR.1 hR.2)
  exact h
theorem p9_seed {g : pH} (hG : g_I eG g) (hx : xL g) (hR : R9 g) (x1 : Int32) : pr_ R9 144 245 [.inl x1] 0 false g := by
  have h := pr_and (q := false) (q' := false) (pr_seed hG hx hR.1 x1) (pw9_seed hG hx hR.1 hR.2 x1)
  exact h
theorem p9_keep {g : pH} (hG : g_I eG g) (hx : xL g) (hR : R9 g) : pr_ R9 126 209 [] 0 true g := by
  have h := pr_and (q := true) (q' := false) (pr_keep hG hx hR.1) (pw9_keep hG hx hR.1 hR.2)
  exact h
theorem p9_undo {g : pH} (hG : g_I eG g) (hx : xL g) (hR : R9 g) : pr_ R9 160 270 [] 0 true g := by
  have h := pr_and (q := true) (q' := false) (pr_undo hG hx hR.1) (pw9_undo hG hx hR.1 hR.2)
  exact h
theorem p9_check {g : pH} (hG : g_I eG g) (hx : xL g) (hR : R9 g) (x1 x2 : Int32) : pr_ R9 110 174 [.inl x1, .inl x2] 0 false g := by
  have h := pr_and (q := false) (q' := false) (pr_check hG hx hR.1 x1 x2) (pw9_check hG hx hR.1 hR.2 x1 x2)
  exact h
theorem p9_count {g : pH} (hG : g_I eG g) (hx : xL g) (hR : R9 g) (x1 : Int32) : pr_ R9 115 182 [.inl x1] 0 false g := by
  have h := pr_and (q := false) (q' := false) (pr_count hG hx hR.1 x1) (pw9_count hG hx hR.1 hR.2 x1)
  exact h
