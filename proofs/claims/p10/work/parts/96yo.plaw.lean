/-! the law of both sides, exactly: the pair with its answers -/
theorem pr_an {R : pH → Prop} {μ ν : Nat} {as : List pv} {τ : Nat} {g : pH} (h : pr_ R μ ν as τ false g) (h' : t_X 99 μ 0 (px_ar 0 (pvR 0 :: as)) [] g (fun o => ∃ v, o.1 = some v ∧ t_X 99 ν 0 (px_ar 0 (pvR 196 :: as)) [] o.2 (fun o2 => o2.1 = some v))) : pr_ R μ ν as τ true g := t_mono (t_and h h') (fun o ho => by
  obtain ⟨⟨v, h1, h2, h3⟩, v', h4, h5⟩ := ho
  obtain rfl : v = v' := Option.some.inj (h1.symm.trans h4)
  refine ⟨v, h1, h2, t_mono (t_and h3 h5) (fun o2 ho2 => ?_)⟩
  obtain ⟨⟨w, k1, k2, k3, k4, k5, -⟩, k6⟩ := ho2
  exact ⟨w, k1, k2, k3, k4, k5, fun _ => Option.some.inj (k6.symm.trans k1)⟩)
theorem pl_b {K : Nat} (hK : lK K) : ((lNk K).testBit (cn 211) = false ∧ (lNk K).testBit (cn 196 + 17) = false) ∧ (lOk K).testBit (cn 211) = false ∧ (lOk K).testBit (cn 196 + 17) = false := by
  rcases hK with rfl | rfl <;> decide +kernel
theorem pl_K {g : pH} (hG : g_I eG g) (hR : R0 g) {K K2 : Nat} (hK : lK K) (hK2 : lK K2) (hr1 : g.2.2.1 164 1 = some K) (hr0 : g.2.2.1 164 0 = some K2) (x1 : Int32) : t_X 99 129 0 (px_ar 0 [pvR 0, .inl x1]) [] g (fun o => ∃ v, o.1 = some v ∧ t_X 99 213 0 (px_ar 0 [pvR 196, .inl x1]) [] o.2 (fun o2 => o2.1 = some v)) := by
  have hb := cb_0_1 hG
  have hl := hR.2
  have hT := hR.1.2.1
  have key : ∀ (W : Nat) (g1 : pH), J_ W g g1 → W.testBit (cn 211) = false → W.testBit (cn 196 + 17) = false → ∀ (o v le st co en : tC) (r : lZ) (z : Int), ((1 ≤ x1.toInt ∧ x1.toInt ≤ 240 ∧ x1.toInt ≤ cF g 0 1) → lWs (tH (fA g 1) x1.toInt) x1.toInt 0 0 o v 0 le st co en r) → ((1 ≤ x1.toInt ∧ x1.toInt ≤ 240 ∧ x1.toInt ≤ cF g 0 1) → yC r) → (∀ f, r = .inl f → z = f) → (∀ p1 k1 o1 v1 c1 le1 st1 co1 en1, r = .inr (p1, k1, o1, v1, c1, le1, st1, co1, en1) → z = c1) → (¬ (1 ≤ x1.toInt ∧ x1.toInt ≤ 240 ∧ x1.toInt ≤ cF g 0 1) → z = -1) → t_X 99 213 0 (px_ar 0 [pvR 196, .inl x1]) [] g1 (fun o2 => o2.1 = some (oI z)) := by
    intro W g1 J1 w1 w2 o v le st co en r z hr hc hF hO hZ
    have e17 : cF g1 196 17 = cF g 0 1 := (cF_M J1.2 w2).trans hl.symm
    have hS0 : xS g1 g1 (cF g1 196 17) (cF g1 196 18) (cF g1 196 19) (cF g1 196 32) (cF g1 196 34) := S_0 J1.1
    refine lwm_run (by decide) hS0 (by omega) (B := fA g 1) (by rw [fA_M J1.2 w1]; exact hT) (i32_b x1) (o := o) (v := v) (le := le) (st := st) (co := co) (en := en) (r := r) (fun h => ?_) (fun h => hr (by rw [e17] at h; exact h)) (fun h => hc (by rw [e17] at h; exact h)) (fun h => ?_) rfl (congrArg some (oI_r x1))
    · rw [e17] at h
      rw [hZ h]
    · rcases r with f | ⟨p1, k1, o1, v1, c1, le1, st1, co1, en1⟩
      · intro g2 _ _
        rw [hF f rfl]
      · intro _ _ g2 _ _ _ _ _
        rw [hO _ _ _ _ _ _ _ _ _ rfl]
  have hS : sE lhk [] 0 g g [cF g 0 1] [] := S_0 hG
  refine clx_run hK hK2 (by decide) hS hb hr1 hr0 (i32_b x1) (fun h => ?_) (fun h g1 f o v le st co en J1 _ _ hx => ?_) (fun h g1 k1 c1 o v le st co en o1 v1 le1 st1 co1 en1 J1 _ _ _ _ _ _ _ _ _ _ hc hx => ?_) rfl (congrArg some (oI_r x1))
  · exact ⟨_, rfl, key 0 g (J_rf hG) (Nat.zero_testBit _) (Nat.zero_testBit _) (fun _ => 0) (fun _ => 0) (fun _ => 0) (fun _ => 0) (fun _ => 0) (fun _ => 0) (.inl (-1)) (-1) (fun z => absurd z h) (fun _ => trivial) (fun f e => by cases e; rfl) (fun p1 k1 o1 v1 c1 le1 st1 co1 en1 e => by cases e) (fun _ => rfl)⟩
  · exact ⟨_, rfl, key _ g1 J1 (pl_b hK).1.1 (pl_b hK).1.2 o v le st co en (.inl f) f (fun _ => hx) (fun _ => trivial) (fun f' e => by cases e; rfl) (fun p1 k1 o1 v1 c1 le1 st1 co1 en1 e => by cases e) (fun z => absurd h z)⟩
  · exact ⟨_, rfl, key _ g1 J1 (pl_b hK).2.1 (pl_b hK).2.2 o v le st co en (.inr (x1.toInt, k1, o1, v1, c1, le1, st1, co1, en1)) c1 (fun _ => hx) (fun _ => ⟨by omega, by omega⟩) (fun f' e => by cases e) (fun p1 k2 o2 v2 c2 le2 st2 co2 en2 e => by cases e; rfl) (fun z => absurd h z)⟩
theorem pz_law {g : pH} (hG : g_I eG g) (hx : xL g) (hR : R0 g) (x1 : Int32) : pr_ R0 129 213 [.inl x1] 0 true g := by
  obtain ⟨h0, h1⟩ := sp_3 hG
  refine pr_an (pr_law hG hx hR x1) ?_
  rcases h1 with h1 | h1 <;> rcases h0 with h0 | h0
  · exact pl_K hG hR (Or.inl rfl) (Or.inl rfl) h1 h0 x1
  · exact pl_K hG hR (Or.inl rfl) (Or.inr rfl) h1 h0 x1
  · exact pl_K hG hR (Or.inr rfl) (Or.inl rfl) h1 h0 x1
  · exact pl_K hG hR (Or.inr rfl) (Or.inr rfl) h1 h0 x1
