/-! orders of both sides: the answers of says, as a pair -/
theorem pr_an {R : pH → Prop} {μ ν : Nat} {as : List pv} {τ : Nat} {g : pH} (h : pr_ R μ ν as τ false g) (h' : t_X 99 μ 0 (px_ar 0 (pvR 0 :: as)) [] g (fun o => ∃ v, o.1 = some v ∧ t_X 99 ν 0 (px_ar 0 (pvR 196 :: as)) [] o.2 (fun o2 => o2.1 = some v))) : pr_ R μ ν as τ true g := t_mono (t_and h h') (fun o ho => by
  obtain ⟨⟨v, h1, h2, h3⟩, v', h4, h5⟩ := ho
  obtain rfl : v = v' := Option.some.inj (h1.symm.trans h4)
  refine ⟨v, h1, h2, t_mono (t_and h3 h5) (fun o2 ho2 => ?_)⟩
  obtain ⟨⟨w, k1, k2, k3, k4, k5, -⟩, k6⟩ := ho2
  exact ⟨w, k1, k2, k3, k4, k5, fun _ => Option.some.inj (k6.symm.trans k1)⟩)
theorem oCk_c {z : Int → Int} {ca cb ca2 cb2 : tC} : ∀ {m : Nat}, (∀ k, k < m → ca k = ca2 k ∧ cb k = cb2 k) → oCk z ca cb m = oCk z ca2 cb2 m
  | 0, _ => rfl
  | m + 1, h => by
    have h1 := h m (by omega)
    show (if z (ca m) ≠ -1 ∧ z (cb m) ≠ -1 then oA (oCk z ca cb m) (z (ca m)).toNat (z (cb m)).toNat else oCk z ca cb m) = _
    rw [oCk_c (m := m) (fun k hk => h k (by omega)), h1.1, h1.2]
    rfl
theorem oBt_e {T T' : Int → Prop} {B : tC} {n : Nat} {M M' : Int32} (h : oBt T B n M) (h' : oBt T' B n M') : M = M' := by
  rw [← Int32.toBitVec_inj]
  refine BitVec.eq_of_getLsbD_eq (fun j hj => ?_)
  have h1 := h.2.1 j hj
  have h2 := h'.2.1 j hj
  rw [Bool.eq_iff_iff]
  exact h1.trans h2.symm
theorem oNu_e {b : Nat → Bool} {nu sp : tC} {N : Nat} (hN : cnt b 32 = N) (h : oNu b nu) (h' : oNu b sp) {k : Nat} (hk : k < N) : nu k = sp k := by
  obtain ⟨j, h1, h2, h3⟩ := cnt_x (f := b) (n := 32) (k := k) (by omega)
  rw [← h3, h j h1 h2, h' j h1 h2]
theorem oAn_e {A : Nat → Nat} {N : Nat} {b : Nat → Bool} {nu sp : tC} (hN : cnt b 32 = N) (h : oNu b nu) (h' : oNu b sp) {i j what : Int} : oAn A N b nu i j what = oAn A N b sp i j what := by
  unfold oAn
  have hk : oK N (oMo (oR A N) (oF A N 0) N N) := oMo_k (Nat.le_refl N)
  generalize oMo (oR A N) (oF A N 0) N N = st at hk ⊢
  by_cases q0 : what = 0
  · rw [if_pos q0, if_pos q0]
  · rw [if_neg q0, if_neg q0]
    rcases hk with hk | hk
    · rw [hk]
      rfl
    · have e1 : oNm nu st.2.1 = oNm sp st.2.1 := by
        unfold oNm
        rw [if_neg (by omega), if_neg (by omega)]
        exact oNu_e hN h h' (by omega)
      have e2 : oNm nu st.2.2 = oNm sp st.2.2 := by
        unfold oNm
        rw [if_neg (by omega), if_neg (by omega)]
        exact oNu_e hN h h' (by omega)
      rw [e1, e2]
theorem oGd_c {T T' : Int → Prop} {B : tC} {n : Nat} (h : ∀ i, T i ↔ T' i) : oGd T B n ↔ oGd T' B n := by
  unfold oGd
  constructor
  · rintro ⟨h1, h2⟩
    exact ⟨fun k hk => (h _).mp (h1 k hk), h2⟩
  · rintro ⟨h1, h2⟩
    exact ⟨fun k hk => (h _).mpr (h1 k hk), h2⟩
theorem jO_c : jO.testBit (cn 196 + 22) = false ∧ jO.testBit (cn 196 + 17) = false ∧ jO.testBit (cn 206) = false ∧ jO.testBit (cn 207) = false ∧ jO.testBit (cn 211) = false ∧ jO.testBit (cn 196 + 0) = false := by decide +kernel
theorem ogy_70_2 : eG (cn 70 + 2) = (0, 24, []) := by decide +kernel
theorem po_says {g : pH} (hG : g_I eG g) (hx : xL g) (hR : R9 g) (x1 x2 x3 x4 : Int32) : pr_ R9 142 243 [.inl x1, .inl x2, .inl x3, .inl x4] 1 true g := by
  refine pr_an (p9_says hG hx hR x1 x2 x3 x4) ?_
  have hP := hR.2.1
  have htl := cb_0_1 hG
  have hl := hR.1.2
  have hT := hR.1.1.2.1
  have hcl2 : 0 ≤ cF g 70 2 ∧ cF g 70 2 ≤ 24 := cb_i hG oeo_70 (y := 2) (Nat.le_of_ble_eq_true rfl) rfl ogy_70_2
  have hto : ∀ i, toC g i ↔ toM g i := fun i => to_iff hR.1.1
  have hS : oE g g (cF g 189 0) (cF g 189 1) (cF g 189 2) (cF g 189 3) (fA g 190) (fA g 191) (fA g 192) (fA g 193) (fA g 194) (fA g 195) := S_0 hG
  have key : ∀ (g1 : pH), J_ jO g g1 → ∀ (z : pv), (¬ (2 ≤ x1.toInt ∧ x1.toInt ≤ 12 ∧ x1.toInt ≤ cF g 0 1 ∧ 0 ≤ x4.toInt ∧ x4.toInt ≤ 3) → z = .inr (.inl (xe_k 9223372036854775807))) → (∀ N : Nat, x1.toInt = N → (2 ≤ x1.toInt ∧ x1.toInt ≤ 12 ∧ x1.toInt ≤ cF g 0 1 ∧ 0 ≤ x4.toInt ∧ x4.toInt ≤ 3) → ¬ oGd (toC g) (fA g 1) N → z = .inr (.inl (xe_k 9223372036854775806))) → (∀ N : Nat, x1.toInt = N → (2 ≤ x1.toInt ∧ x1.toInt ≤ 12 ∧ x1.toInt ≤ cF g 0 1 ∧ 0 ≤ x4.toInt ∧ x4.toInt ≤ 3) → ∀ (M : Int32), oBt (toC g) (fA g 1) N M → ∀ (sp : tC), oNu (fun j => M.toBitVec.getLsbD j) sp → z = .inr (.inl (oAn (oCk (oz_ (fun j => M.toBitVec.getLsbD j)) (fA g 71) (fA g 72) (cF g 70 2).toNat) N (fun j => M.toBitVec.getLsbD j) sp x2.toInt x3.toInt x4.toInt))) → t_X 99 243 0 (px_ar 0 [pvR 196, .inl x1, .inl x2, .inl x3, .inl x4]) [] g1 (fun o2 => o2.1 = some z) := by
    intro g1 J1 z hZ hN9 hY
    obtain ⟨w1, w2, w3, w4, w5, w6⟩ := jO_c
    have e17 : cF g1 196 17 = cF g 0 1 := (cF_M J1.2 w2).trans hl.symm
    have e22 : cF g1 196 22 = cF g 70 2 := (cF_M J1.2 w1).trans hP.1.symm
    have hM0 : ∀ i, toC g i ↔ toM g1 i := fun i => (hto i).trans (by
      unfold toM bM
      rw [(J1.2.1 196 0 w6).1])
    have hS1 : mE g1 g1 (cF g1 196 71) (fA g1 238) (fA g1 239) := S_0 J1.1
    refine omy_run (by decide) (B := fA g 1) (by rw [fA_M J1.2 w5]; exact hT) e22 rfl rfl hcl2 hS1 (i32_b x2) (i32_b x3) (i32_b x4) e17 htl (i32_b x1) (fun h => ?_) (fun N e h hno g2 _ => ?_) (fun N e h M hM sp hsp g2 _ => ?_) rfl (congrArg some (oI_r x1)) (congrArg some (oI_r x2)) (congrArg some (oI_r x3)) (congrArg some (oI_r x4))
    · rw [hZ h]
    · rw [hN9 N e h (fun q => hno ((oGd_c hM0).mp q))]
    · have hM2 : oBt (toC g) (fA g 1) N M := ⟨(oGd_c hM0).mpr hM.1, hM.2⟩
      have ec : oCk (oz_ (fun j => M.toBitVec.getLsbD j)) (fA g 71) (fA g 72) (cF g 70 2).toNat = oCk (oz_ (fun j => M.toBitVec.getLsbD j)) (fA g1 206) (fA g1 207) (cF g 70 2).toNat := oCk_c (fun k hk => by
        rw [fA_M J1.2 w3, fA_M J1.2 w4]
        exact hP.2 k hk)
      rw [hY N e h M hM2 sp hsp, ec]
  refine osy_run (by decide) hR.1.1.1 rfl rfl rfl rfl hcl2 hS (i32_b x2) (i32_b x3) (i32_b x4) rfl htl (i32_b x1) (fun h => ?_) (fun N e h hno g1 J1 => ?_) (fun N e h M hM nu hnu g1 J1 => ?_) rfl (congrArg some (oI_r x1)) (congrArg some (oI_r x2)) (congrArg some (oI_r x3)) (congrArg some (oI_r x4))
  · exact ⟨_, rfl, key g (J_rf hG) _ (fun _ => rfl) (fun N e q => absurd q h) (fun N e q => absurd q h)⟩
  · refine ⟨_, rfl, key g1 J1 _ (fun q => absurd h q) (fun N e q _ => rfl) (fun N2 e2 q M hM => ?_)⟩
    have e3 : N2 = N := by omega
    subst e3
    exact absurd hM.1 hno
  · refine ⟨_, rfl, key g1 J1 _ (fun q => absurd h q) (fun N2 e2 q hno => ?_) (fun N2 e2 q M2 hM2 sp hsp => ?_)⟩
    · have e3 : N2 = N := by omega
      subst e3
      exact absurd hM.1 hno
    · have e3 : N2 = N := by omega
      subst e3
      have e4 : M2 = M := oBt_e hM2 hM
      subst e4
      rw [oAn_e hM.2.2 hnu hsp]
theorem lg_same (a : Int64) : lg_cmp a a = 0 := by
  have h1 := (lg_cmp_v a a).2.mpr (by omega)
  exact Int32.toInt_inj.mp (by rw [h1]; decide)
