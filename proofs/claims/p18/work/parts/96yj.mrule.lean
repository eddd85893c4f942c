/-! reference: the law's text: the rules, one by one -/
section JR
variable {g0 : pH} {B : tC} {n : Int}
theorem j_ok2 {Q Q2 : Option pv × pH → Prop} {f : Int} (h : jOK g0 Q f) (h2 : ∀ g, Q (some (oI 0), g) → Q2 (some (oI 0), g)) : jOK g0 Q2 f := fun g hg => h2 g (h g hg)
theorem j_cl (hB : jB g0 B n) : lCl (tH B n) n (jI (tH B n) g0) := by
  have hn := hB.2.2
  have z8 : ∀ {p x : Int}, tH B n p = x → 0 ≤ x → p < n := fun {p x} h1 h2 => tH_n (B := B) (by omega)
  refine ⟨?_, ?_, ?_, ?_, ?_, ?_, ?_, ?_, ?_, ?_, ?_, ?_, ?_, ?_, ?_, ?_, ?_, ?_, ?_, ?_, ?_, ?_, ?_, ?_, ?_, ?_, ?_, ?_, ?_, ?_, ?_, ?_, ?_, ?_, ?_, ?_, ?_, ?_, ?_, ?_⟩
  · intro δ p k o v h0 h1 h2
    exact ⟨lc_F1 (pr_cl (tH B n) n) δ p k o v h0 h1 h2, fun hδ d Q β π hd hβ hl hQ g hg QF hF => jf_deep (by omega) hB h0 ⟨by omega, by omega⟩ hg h1 (by omega) (j_ok2 hQ hF.2)⟩
  · intro δ p k o v f h0 h1 h2 h3
    refine ⟨rfl, fun hδ d Q β π hd hβ hl hQ g hg QF hF => ?_⟩
    refine jf_open (by omega) hB h0 ⟨by omega, by omega⟩ hg h1 (by omega) (fun g1 hg1 => ?_)
    exact h3.2 (by omega) d Q β ((14, 0) :: π) hd hβ (by rw [List.length_cons]; omega) (Or.inl (by decide)) hQ g1 hg1 QF hF
  · intro δ p k o v p1 k1 o1 v1 h0 h1 h2 h3 h4 h5
    refine ⟨rfl, fun hδ d Q β π hd hβ hl hQ g hg QF hF => ?_⟩
    refine jf_open (by omega) hB h0 ⟨by omega, by omega⟩ hg h1 (by omega) (fun g1 hg1 => ?_)
    have h6 := h3.2 (by omega) d Q β ((14, 0) :: π) hd hβ (by rw [List.length_cons]; omega) (Or.inl (by decide))
    refine h6.2 (mu_re hB h4 ⟨by omega, by omega⟩ (Or.inl (by decide)) (fun g2 hg2 => ?_)) g1 hg1 QF hF
    exact sl_b hd hB h4 ⟨by omega, by omega⟩ hβ hg2 hl h5 (by unfold lSg; rw [if_pos h6.1.1]; exact h6.1.2) hQ
  · intro δ p k o v p1 k1 o1 v1 h0 h1 h2 h3 h4 h5
    refine ⟨lc_F4 (pr_cl (tH B n) n) δ p k o v p1 k1 o1 v1 h0 h1 h2 h3.1 h4 h5, fun hδ d Q β π hd hβ hl hS g hg QF hF => ?_⟩
    refine jf_open (by omega) hB h0 ⟨by omega, by omega⟩ hg h1 (by omega) (fun g1 hg1 => ?_)
    have h6 := h3.2 (by omega) d Q β ((14, 0) :: π) hd hβ (by rw [List.length_cons]; omega) (Or.inl (by decide))
    refine h6.2 (mu_re hB h4 ⟨by omega, by omega⟩ (Or.inl (by decide)) (fun g2 hg2 => ?_)) g1 hg1 QF hF
    refine sl_c hd hB h4 ⟨by omega, by omega⟩ hβ hg2 hl h5 (fun g3 hg3 => hS g3 ?_)
    rw [show ((δ + 1 : Nat) : Int) - 1 = (δ : Int) by omega] at hg3
    exact hg3
  · intro δ p k o v x q h0 h1
    refine ⟨lc_F5 (pr_cl (tH B n) n) δ p k o v x q h0 h1, fun hδ d Q β π hd hβ hl hS g hg QF hF => ?_⟩
    exact jf_num (by omega) hB h0 ⟨by omega, by omega⟩ hg (lNu_b h1).2.2.2.2.1 (fun g1 f hf h2 => (lNuf h1 h2).elim) (fun g1 x2 q2 h2 hg1 => by
      obtain ⟨e1, e2⟩ := lNu_d h1 h2
      subst e1
      subst e2
      exact hF.1 g1 (hS g1 hg1))
  · intro δ p k o v f h0 h1
    refine ⟨rfl, fun hδ d Q β π hd hβ hl hQ g hg QF hF => ?_⟩
    have h2 : tDg (tH B n p) := by
      have := h1.1 0 (by decide)
      rw [show p + ((0 : Nat) : Int) = p by omega] at this
      exact this
    exact jf_num (by omega) hB h0 ⟨by omega, by omega⟩ hg h2 (fun g1 f2 hf h3 => by
      have e : f2 = f := h3.2.trans h1.2.symm
      subst e
      exact hF.2 g1 (hQ g1 hf)) (fun g1 x2 q2 h3 hg1 => (lNuf h3 h1).elim)
  · intro δ p k o v h0 h1
    refine ⟨lc_F7 (pr_cl (tH B n) n) δ p k o v h0 h1, fun hδ d Q β π hd hβ hl hS g hg QF hF => ?_⟩
    have w := lFa_b (tH B n p)
    exact jf_let (by omega) hB h0 ⟨by omega, by omega⟩ hg (by omega) (by unfold tDg; omega) h1 (fun g1 hg1 => hF.1 g1 (hS g1 hg1))
  · intro δ p k o v h0 h1 h2 h3
    exact ⟨rfl, fun hδ d Q β π hd hβ hl hQ g hg QF hF => jf_bad (by omega) hB h0 ⟨by omega, by omega⟩ hg h1 h2 h3 (j_ok2 hQ hF.2)⟩
  · intro δ p k o v h0 h1
    exact ⟨lc_T1 (pr_cl (tH B n) n) δ p k o v h0 h1, fun hδ d Q β π hd hβ hl hs => ⟨h1, fun h => h⟩⟩
  · intro δ p k o v f h0 h1 h2
    refine ⟨rfl, fun hδ d Q β π hd hβ hl hs hQ => ?_⟩
    have w := lSg_b (tH B n p)
    refine mt_re hB h0 ⟨by omega, by omega⟩ hs (fun g hre => sl_3 hd hB h0 ⟨by omega, by omega⟩ hβ hre (by omega) (fun g1 hg1 => ?_))
    exact h2.2 hδ d Q β _ hd hβ (by rw [List.length_cons]; omega) hQ g1 hg1
  · intro δ p k o v p1 k1 o1 v1 r h0 h1 h2 h3 h4
    refine ⟨lc_T3 (pr_cl (tH B n) n) δ p k o v p1 k1 o1 v1 r h0 h1 h2.1 h3 h4.1, fun hδ d Q β π hd hβ hl hs => ?_⟩
    have w := lSg_b (tH B n p)
    have e : lSg (tH B n p) = lT3 (tH B n p) := by omega
    have hk1 := h2.1.1
    have main : jMT g0 d Q β p1 (k1 + 1) (updI o1 k1.toNat (lT3 (tH B n p))) (updI v1 k1.toNat 0) δ π → jMT g0 d Q β p k o v δ π := fun hM => by
      have h5 := h0.2.2.1
      refine mt_re hB h0 ⟨by omega, by omega⟩ hs (fun g hre => sl_3 hd hB h0 ⟨by omega, by omega⟩ hβ hre (by omega) (fun g1 hg1 => ?_))
      rw [e] at hg1
      refine h2.2 hδ d Q β _ hd hβ (by rw [List.length_cons]; omega) (fun g2 hg2 => ?_) g1 hg1
      refine hM.2 _ ⟨by omega, by omega⟩ (by omega) (by rw [show k1 + 1 - 1 = k1 by omega]; exact up_s) (by rw [show k1 + 1 - 1 = k1 by omega]; exact up_s) g2 ?_
      rw [show k1 + 1 - 1 = k1 by omega]
      exact St_c (fun j hj => ⟨up_o (by omega) j hj, up_o (by omega) j hj⟩) hg2
    rcases r with f | ⟨p2, k2, o2, v2⟩
    · exact fun hQ => main (h4.2 hδ d Q β π hd hβ hl hs hQ)
    · have h6 := h4.2 hδ d Q β π hd hβ hl hs
      exact ⟨h6.1, fun h => main (h6.2 h)⟩
  · intro δ p k o v h0 h1
    exact ⟨lc_S1 (pr_cl (tH B n) n) δ p k o v h0 h1, fun hδ d Q β π hd hβ hl hs => ⟨h1, fun h => h, fun h => h⟩⟩
  · intro δ p k o v f h0 h1 h2
    refine ⟨rfl, fun hδ d Q β π hd hβ hl hs hQ => ?_⟩
    have w := lSg_b (tH B n p)
    have w2 := lS2_b (tH B n p)
    refine mu_re hB h0 ⟨by omega, by omega⟩ hs (fun g hre => sl_2 hd hB h0 ⟨by omega, by omega⟩ hβ hre (by omega) (fun g1 hg1 => ?_))
    exact h2.2 hδ d Q β ((lSg (tH B n p), 0) :: π) hd hβ (by rw [List.length_cons]; omega) (Or.inr ⟨rfl, by show lSg (tH B n p) < 4; omega⟩) hQ g1 hg1
  · intro δ p k o v p1 k1 o1 v1 r h0 h1 h2 h3 h4
    refine ⟨lc_S3 (pr_cl (tH B n) n) δ p k o v p1 k1 o1 v1 r h0 h1 h2.1 h3 h4.1, fun hδ d Q β π hd hβ hl hs => ?_⟩
    have w := lSg_b (tH B n p)
    have w2 := lS2_b (tH B n p)
    have e : lSg (tH B n p) = lS2 (tH B n p) := by omega
    have hk1 := h2.1.1
    have h7 := fun Q2 => h2.2 hδ d Q2 β ((lS2 (tH B n p), 0) :: π) hd hβ (by rw [List.length_cons]; omega) (Or.inr ⟨rfl, by show lS2 (tH B n p) < 4; omega⟩)
    have main : jMU g0 d Q β p1 (k1 + 1) (updI o1 k1.toNat (lS2 (tH B n p))) (updI v1 k1.toNat 0) δ π → jMU g0 d Q β p k o v δ π := fun hM => by
      have h5 := h0.2.2.1
      refine mu_re hB h0 ⟨by omega, by omega⟩ hs (fun g hre => sl_2 hd hB h0 ⟨by omega, by omega⟩ hβ hre (by omega) (fun g1 hg1 => ?_))
      rw [e] at hg1
      refine (h7 Q).2 ?_ g1 hg1
      have h8 := hM.2 (lS2 (tH B n p)) (by omega) (by omega) (by rw [show k1 + 1 - 1 = k1 by omega]; exact up_s) (by rw [show k1 + 1 - 1 = k1 by omega]; exact up_s)
      rw [show k1 + 1 - 1 = k1 by omega] at h8
      have cg : ∀ j : Nat, (j : Int) < k1 → updI o1 k1.toNat (lS2 (tH B n p)) j = o1 j ∧ updI v1 k1.toNat 0 j = v1 j := fun j hj => ⟨up_o (by omega) j hj, up_o (by omega) j hj⟩
      refine ⟨fun g2 hg2 => h8.1 g2 (St_c cg hg2), fun t ht h9 h10 h11 g2 hg2 => ?_⟩
      exact h8.2 t ht h9 ((cg _ (by omega)).1.trans h10) ((cg _ (by omega)).2.trans h11) g2 (St_c (fun j hj => cg j (by omega)) hg2)
    rcases r with f | ⟨p2, k2, o2, v2⟩
    · exact fun hQ => main (h4.2 hδ d Q β π hd hβ hl hs hQ)
    · have h6 := h4.2 hδ d Q β π hd hβ hl hs
      exact ⟨h6.1, fun _ => h6.2.1 (h7 Q).1, fun h => main (h6.2.2 h)⟩
  · intro δ p k o v f h0 h1
    exact ⟨rfl, fun hδ d Q β π hd hβ hl hs hQ => h1.2 hδ d Q β π hd hβ hl hQ⟩
  · intro δ p k o v p1 k1 o1 v1 r h0 h1 h2 h3
    refine ⟨lc_E2 (pr_cl (tH B n) n) δ p k o v p1 k1 o1 v1 r h0 h1.1 h2 h3.1, fun hδ d Q β π hd hβ hl hs => ?_⟩
    rcases r with f | ⟨p2, k2, o2, v2⟩
    · exact fun hQ => h1.2 hδ d Q β π hd hβ hl (h3.2 hδ d Q β π hd hβ hl hs hQ).1
    · have h6 := h3.2 hδ d Q β π hd hβ hl hs
      exact ⟨h6.1, fun h => h1.2 hδ d Q β π hd hβ hl (h6.2 h).1⟩
  · intro δ p k o v f h0 h1
    exact ⟨rfl, fun hδ d Q β π hd hβ hl hs hQ => h1.2 hδ d Q β π hd hβ hl (tS10 hs) hQ⟩
  · intro δ p k o v p1 k1 o1 v1 r h0 h1 h2 h3
    refine ⟨lc_U2 (pr_cl (tH B n) n) δ p k o v p1 k1 o1 v1 r h0 h1.1 h2 h3.1, fun hδ d Q β π hd hβ hl hs => ?_⟩
    have h5 := h1.2 hδ d Q β π hd hβ hl (tS10 hs)
    rcases r with f | ⟨p2, k2, o2, v2⟩
    · exact fun hQ => h5.2 (h3.2 hδ d Q β π hd hβ hl hs hQ).1
    · have h6 := h3.2 hδ d Q β π hd hβ hl hs
      exact ⟨⟨h6.1, h6.2.1 h5.1⟩, fun h => h5.2 (h6.2.2 h).1⟩
  · intro δ p k o v f h0 h1
    exact ⟨rfl, fun hδ d Q π hd hs hl hQ => h1.2 hδ d Q π hd (tLS hs) hl hQ⟩
  · intro δ p k o v p1 k1 o1 v1 r h0 h1 h2 h3
    refine ⟨lc_B2 (pr_cl (tH B n) n) δ p k o v p1 k1 o1 v1 r h0 h1.1 h2 h3.1, fun hδ d Q π hd hs hl => ?_⟩
    have h5 := h1.2 hδ d Q π hd (tLS hs) hl
    rcases r with f | ⟨p2, k2, o2, v2⟩
    · exact fun hQ => h5 (h3.2 hδ d Q π hd hs hl hQ).1
    · have h6 := h3.2 hδ d Q π hd hs hl
      exact ⟨h6.1, fun h => h5 (h6.2 h).1⟩
  · intro δ p k o v f h0 h1
    exact ⟨rfl, fun hδ d Q π hd hs hl hQ => h1.2 hδ d Q π hd (tL01 hs) hl hQ⟩
  · intro δ p k o v p1 k1 o1 v1 r h0 h1 h2 h3
    refine ⟨lc_D2 (pr_cl (tH B n) n) δ p k o v p1 k1 o1 v1 r h0 h1.1 h2 h3.1, fun hδ d Q π hd hs hl => ?_⟩
    have h5 := h1.2 hδ d Q π hd (tL01 hs) hl
    rcases r with f | ⟨p2, k2, o2, v2⟩
    · exact fun hQ => h5.2 (h3.2 hδ d Q π hd hs hl hQ).1
    · have h6 := h3.2 hδ d Q π hd hs hl
      exact ⟨⟨h6.1.1, h6.1.2 h5.1⟩, fun h => h5.2 (h6.2 h).1⟩
  · intro δ p k o v f h0 h1
    refine ⟨rfl, fun hδ d Q π hd hs hQ g hg QD h2 h3 => ?_⟩
    have hl := hg
    obtain ⟨-, -, -, -, -, -, -, hl⟩ := hl
    have h9 := h0.2.1
    exact cm_1 (δ := (δ : Int)) (π := π) (o := o) (v := v) (by omega) hB h0 ⟨by omega, by omega⟩ (fun Q1 hQ1 => su_f (by omega) (h1.2 hδ (d - 1 - 1) Q1 π.length π (by omega) (by omega) (Nat.le_refl _) hs hQ1) hg) (j_ok2 hQ h3)
  · intro δ p k o v p1 k1 o1 v1 h0 h1 h2 h3
    refine ⟨rfl, fun hδ d Q π hd hs hQ g hg QD h4 h5 => ?_⟩
    have hl := hg
    obtain ⟨-, -, -, -, -, -, -, hl⟩ := hl
    have h9 := h0.2.1
    refine cm_2 (δ := (δ : Int)) (π := π) (o := o) (v := v) (o1 := o1) (v1 := v1) (by omega) hB h0 ⟨by omega, by omega⟩ h2 (fun Q1 hQ1 => su_f (by omega) ?_ hg) h3 (j_ok2 hQ h5)
    have h6 := h1.2 hδ (d - 1 - 1) Q1 π.length π (by omega) (by omega) (Nat.le_refl _) hs
    exact h6.2 (mu_re hB h2 ⟨by omega, by omega⟩ hs (fun g2 hg2 => sl_e (by omega) hB h2 ⟨by omega, by omega⟩ (by omega) hg2 rfl (by unfold lSg; rw [if_pos h6.1.1]; exact h6.1.2) hQ1))
  · intro δ p k o v p1 k1 o1 v1 f h0 h1 h2 h3 h4
    refine ⟨rfl, fun hδ d Q π hd hs hQ g hg QD h7 h5 => ?_⟩
    have hl := hg
    obtain ⟨-, -, -, -, -, -, -, hl⟩ := hl
    have h9 := h0.2.1
    refine cm_3 (δ := (δ : Int)) (π := π) (o := o) (v := v) (o1 := o1) (v1 := v1) (by omega) hB h0 ⟨by omega, by omega⟩ h2 (fun Q1 hQ1 => su_f (by omega) ?_ hg) h3 (fun g1 hg1 Q1 hQ1 => su_f (by omega) (h4.2 hδ (d - 1 - 1) Q1 π.length π (by omega) (by omega) (Nat.le_refl _) hs hQ1) hg1) (j_ok2 hQ h5)
    have h6 := h1.2 hδ (d - 1 - 1) Q1 π.length π (by omega) (by omega) (Nat.le_refl _) hs
    exact h6.2 (mu_re hB h2 ⟨by omega, by omega⟩ hs (fun g2 hg2 => sl_e (by omega) hB h2 ⟨by omega, by omega⟩ (by omega) hg2 rfl (by unfold lSg; rw [if_pos h6.1.1]; exact h6.1.2) hQ1))
  · intro δ p k o v p1 k1 o1 v1 p2 k2 o2 v2 h0 h1 h2 h3 h4 h10
    refine ⟨lc_C4 (pr_cl (tH B n) n) δ p k o v p1 k1 o1 v1 p2 k2 o2 v2 h0 h1.1 h2 h3 h4.1 h10, fun hδ d Q π hd hs hE g hg QD h7 h5 => ?_⟩
    have hl := hg
    obtain ⟨-, -, -, -, -, -, -, hl⟩ := hl
    have h9 := h0.2.1
    have h12 := h2.2.2.1
    have h13 := h4.1.1
    have h14 : lP n p2 k2 := by unfold lP at h10 ⊢; omega
    refine cm_4 (δ := (δ : Int)) (π := π) (o := o) (v := v) (o1 := o1) (v1 := v1) (o2 := o2) (v2 := v2) (by omega) hB h0 ⟨by omega, by omega⟩ h2 (fun Q1 hQ1 => su_f (by omega) ?_ hg) h3 h10 (by omega) (fun g1 hg1 Q1 hQ1 => su_f (by omega) ?_ hg1) hE h7
    · have h6 := h1.2 hδ (d - 1 - 1) Q1 π.length π (by omega) (by omega) (Nat.le_refl _) hs
      exact h6.2 (mu_re hB h2 ⟨by omega, by omega⟩ hs (fun g2 hg2 => sl_e (by omega) hB h2 ⟨by omega, by omega⟩ (by omega) hg2 rfl (by unfold lSg; rw [if_pos h6.1.1]; exact h6.1.2) hQ1))
    · have h6 := h4.2 hδ (d - 1 - 1) Q1 π.length π (by omega) (by omega) (Nat.le_refl _) hs
      exact h6.2 (mu_re hB h14 ⟨by omega, by omega⟩ hs (fun g2 hg2 => sl_e (by omega) hB h14 ⟨by omega, by omega⟩ (by omega) hg2 rfl (by unfold lSg; rw [if_pos h6.1.1]; exact h6.1.2) hQ1))
  · intro δ p k o v h0 h1 h2
    exact ⟨rfl, fun hδ d Q π hd hs hl hQ g hg => pa_bd (by omega) hB h0 ⟨by omega, by omega⟩ hg h1 (by omega) hQ⟩
  · intro δ p k o v f h0 h1 h2 h3
    refine ⟨rfl, fun hδ d Q π hd hs hl hQ g hg => pa_b (by omega) hB h0 ⟨by omega, by omega⟩ hg h1 (by omega) (fun g1 hg1 => ?_)⟩
    exact h3.2 (by omega) d Q ((10, 0) :: π) hd (Or.inl (by decide)) (by rw [List.length_cons]; omega) hQ g1 hg1
  · intro δ p k o v p1 k1 o1 v1 h0 h1 h2 h3 h4
    refine ⟨lc_P3 (pr_cl (tH B n) n) δ p k o v p1 k1 o1 v1 h0 h1 h2 h3.1 h4, fun hδ d Q π hd hs hl hE g hg => pa_b (by omega) hB h0 ⟨by omega, by omega⟩ hg h1 (by omega) (fun g1 hg1 => ?_)⟩
    have h5 := h0.2.2.1
    have h6 := h3.1.1
    have h7 : lP n p1 k1 := by unfold lP at h4 ⊢; omega
    refine h3.2 (by omega) d Q ((10, 0) :: π) hd (Or.inl (by decide)) (by rw [List.length_cons]; omega) (fun g2 hg2 d1 hd1 Q1 hQ1 => ?_) g1 hg1
    exact en_s hd1 hB h7 ⟨by omega, by omega⟩ (by unfold lP at h4; omega) hg2 (fun g3 hg3 => hE g3 hg3 d1 hd1 Q1 hQ1)
  · intro δ p k o v h0 h1 h2
    exact ⟨rfl, fun hδ d Q π hd hs hl hQ g hg => pa_pd (by omega) hB h0 ⟨by omega, by omega⟩ hg h1 (by omega) hQ⟩
  · intro δ p k o v f h0 h1 h2 h3
    refine ⟨rfl, fun hδ d Q π hd hs hl hQ g hg => pa_p (by omega) hB h0 ⟨by omega, by omega⟩ hg h1 (by omega) (fun g1 hg1 => ?_)⟩
    exact h3.2 (by omega) d Q ((13, 0) :: π) hd (Or.inl rfl) (by rw [List.length_cons]; omega) hQ g1 hg1
  · intro δ p k o v p1 k1 o1 v1 h0 h1 h2 h3 h4 h5
    refine ⟨rfl, fun hδ d Q π hd hs hl hQ g hg => pa_p (by omega) hB h0 ⟨by omega, by omega⟩ hg h1 (by omega) (fun g1 hg1 => ?_)⟩
    have h6 := h3.2 (by omega) d Q ((13, 0) :: π) hd (Or.inl rfl) (by rw [List.length_cons]; omega)
    refine h6.2 (mc_le hB h4 ⟨by omega, by omega⟩ (Or.inl rfl) (fun g2 hle => ?_)) g1 hg1
    obtain ⟨l, v', hg2⟩ := hle.1
    exact cr_b (by omega) hB h4 ⟨by omega, by omega⟩ hg2 h5 h6.1.2 h6.1.1 hQ
  · intro δ p k o v p1 k1 o1 v1 h0 h1 h2 h3 h4 h5
    refine ⟨lc_P7 (pr_cl (tH B n) n) δ p k o v p1 k1 o1 v1 h0 h1 h2 h3.1 h4 h5, fun hδ d Q π hd hs hl hE g hg => pa_p (by omega) hB h0 ⟨by omega, by omega⟩ hg h1 (by omega) (fun g1 hg1 => ?_)⟩
    have h6 := h3.2 (by omega) d Q ((13, 0) :: π) hd (Or.inl rfl) (by rw [List.length_cons]; omega)
    refine h6.2 (mc_le hB h4 ⟨by omega, by omega⟩ (Or.inl rfl) (fun g2 hle => ?_)) g1 hg1
    refine cr_p (by omega) hB h4 ⟨by omega, by omega⟩ hle h5 hl ?_
    rw [show ((δ + 1 : Nat) : Int) - 1 = (δ : Int) by omega]
    exact hE
  · intro δ p k o v r h0 h1 h2 h3
    refine ⟨lc_P8 (pr_cl (tH B n) n) δ p k o v r h0 h1 h2 h3.1, fun hδ d Q π hd hs hl => ?_⟩
    have h5 := h3.2 hδ d Q π hd hs
    rcases r with f | ⟨p2, k2, o2, v2⟩
    · exact fun hQ g hg => pa_c (by omega) hB h0 ⟨by omega, by omega⟩ hg h1 h2 (h5 hQ g hg)
    · exact fun hE g hg => pa_c (by omega) hB h0 ⟨by omega, by omega⟩ hg h1 h2 (h5 hE g hg)
  · intro δ p k o v h0 h1
    exact ⟨lc_A1 (pr_cl (tH B n) n) δ p k o v h0 h1, fun hδ d Q π hd hs hl => ⟨h1, fun h => h⟩⟩
  · intro δ p k o v f h0 h1 h2
    refine ⟨rfl, fun hδ d Q π hd hs hl hQ => mp_le hB h0 ⟨by omega, by omega⟩ hs (fun g hle => ?_)⟩
    exact cr_a (by omega) hB h0 ⟨by omega, by omega⟩ hle h1 (fun g1 hg1 => h2.2 hδ d Q ((11, k) :: π) hd (Or.inl (by show (7 : Int) ≤ 11; decide)) (by rw [List.length_cons]; omega) hQ g1 hg1)
  · intro δ p k o v p1 k1 o1 v1 r h0 h1 h2 h3 h4 h5
    refine ⟨lc_A3 (pr_cl (tH B n) n) δ p k o v p1 k1 o1 v1 r h0 h1 h2.1 h3 h4 h5.1, fun hδ d Q π hd hs hl => ?_⟩
    have hk := h0.2.2.1
    have h8 := h2.1.2 k.toNat (by omega)
    have e1 : o1 k.toNat = 11 := h8.1.trans up_s
    have e2 : v1 k.toNat = 0 := h8.2.trans up_s
    have main : jMP g0 d Q p1 k1 o1 (updI v1 k.toNat k1) δ π → jMP g0 d Q p k o v δ π := fun hM => mp_le hB h0 ⟨by omega, by omega⟩ hs (fun g hle => by
      refine cr_a (by omega) hB h0 ⟨by omega, by omega⟩ hle h1 (fun g1 hg1 => ?_)
      refine h2.2 hδ d Q ((11, k) :: π) hd (Or.inl (by show (7 : Int) ≤ 11; decide)) (by rw [List.length_cons]; omega) ?_ g1 hg1
      have h9 := hM.2 k ⟨hk, h4⟩ e1 up_s
      rw [up_id e2] at h9
      exact h9)
    rcases r with f | ⟨p2, k2, o2, v2⟩
    · exact fun hQ => main (h5.2 hδ d Q π hd hs hl hQ)
    · have h6 := h5.2 hδ d Q π hd hs hl
      exact ⟨h6.1, fun h => main (h6.2 h)⟩
  · intro δ p k o v h0 h1
    exact ⟨lc_O1 (pr_cl (tH B n) n) δ p k o v h0 h1, fun hδ d Q π hd hs hl => ⟨⟨h1, fun h => h⟩, fun h => h⟩⟩
  · intro δ p k o v f h0 h1 h2
    refine ⟨rfl, fun hδ d Q π hd hs hl hQ => mc_le hB h0 ⟨by omega, by omega⟩ hs (fun g hle => ?_)⟩
    exact cr_o (by omega) hB h0 ⟨by omega, by omega⟩ hle h1 (fun g1 hg1 => h2.2 hδ d Q ((12, k) :: π) hd (Or.inr ⟨rfl, rfl⟩) (by rw [List.length_cons]; omega) hQ g1 hg1)
  · intro δ p k o v p1 k1 o1 v1 r h0 h1 h2 h3 h4 h5
    refine ⟨lc_O3 (pr_cl (tH B n) n) δ p k o v p1 k1 o1 v1 r h0 h1 h2.1 h3 h4 h5.1, fun hδ d Q π hd hs hl => ?_⟩
    have hk := h0.2.2.1
    have h8 := h2.1.2 k.toNat (by omega)
    have e1 : o1 k.toNat = 12 := h8.1.trans up_s
    have e2 : v1 k.toNat = 0 := h8.2.trans up_s
    have h7 := fun Q2 => h2.2 hδ d Q2 ((12, k) :: π) hd (Or.inr ⟨rfl, rfl⟩) (by rw [List.length_cons]; omega)
    have main : jMC g0 d Q p1 k1 o1 (updI v1 k.toNat k1) δ π → jMC g0 d Q p k o v δ π := fun hM => mc_le hB h0 ⟨by omega, by omega⟩ hs (fun g hle => by
      refine cr_o (by omega) hB h0 ⟨by omega, by omega⟩ hle h1 (fun g1 hg1 => ?_)
      refine (h7 Q).2 ?_ g1 hg1
      have h9 := hM.2 k ⟨hk, h4⟩ e1 up_s
      rw [up_id e2] at h9
      exact h9)
    rcases r with f | ⟨p2, k2, o2, v2⟩
    · exact fun hQ => main (h5.2 hδ d Q π hd hs hl hQ)
    · have h6 := h5.2 hδ d Q π hd hs hl
      exact ⟨⟨h6.1.1, fun _ => h6.1.2 (h7 Q).1⟩, fun h => main (h6.2 h)⟩
end JR
