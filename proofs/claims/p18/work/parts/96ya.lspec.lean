/-! the law's text: what reading it comes to (least relation closed under its rules; printed by wip/e2/v0.py) -/
abbrev lR : Type := Int ⊕ (Int × (Int × (tC × tC)))
def lV (H : Int → Int) (p : Int) : Nat → Int
  | 0 => 0
  | i + 1 => 10 * lV H p i + (H (p + i) - 48)
def lNu (H : Int → Int) (p x q : Int) : Prop := ∃ L : Nat, 1 ≤ L ∧ L ≤ 5 ∧ (∀ i : Nat, i < L → tDg (H (p + i))) ∧ ¬ tDg (H (p + L)) ∧ x = lV H p L ∧ q = p + L
def lNf (H : Int → Int) (p f : Int) : Prop := (∀ i : Nat, i < 6 → tDg (H (p + i))) ∧ f = -2000 - (p + 5)
def lFa (c : Int) : Int := if c = 105 then 0 else if c = 107 then 1 else if c = 97 then 2 else if c = 121 then 3 else if c = 113 then 4 else if c = 109 then 5 else if c = 111 then 6 else if c = 118 then 7 else if c = 108 then 8 else if c = 101 then 9 else if c = 122 then 10 else -1
def lT3 (c : Int) : Int := if c = 42 then 4 else if c = 47 then 5 else if c = 37 then 6 else -1
def lS2 (c : Int) : Int := if c = 43 then 2 else if c = 45 then 3 else -1
def lC3 (c : Int) : Int := if c = 60 then 7 else if c = 62 then 8 else if c = 61 then 9 else -1
def lLe (c : Int) : Prop := c = 119 ∨ c = 110 ∨ c = 115 ∨ c = 116 ∨ c = 106 ∨ c = 120 ∨ c = 112 ∨ c = 98
theorem lFa_b (c : Int) : (lFa c = -1 ∧ c ≠ 105 ∧ c ≠ 107 ∧ c ≠ 97 ∧ c ≠ 121 ∧ c ≠ 113 ∧ c ≠ 109 ∧ c ≠ 111 ∧ c ≠ 118 ∧ c ≠ 108 ∧ c ≠ 101 ∧ c ≠ 122) ∨ (0 ≤ lFa c ∧ lFa c ≤ 10 ∧ 97 ≤ c ∧ c ≤ 122) := by
  unfold lFa
  repeat' split
  all_goals omega
theorem lT3_b (c : Int) : (lT3 c = -1 ∧ c ≠ 42 ∧ c ≠ 47 ∧ c ≠ 37) ∨ (4 ≤ lT3 c ∧ lT3 c ≤ 6 ∧ 37 ≤ c ∧ c ≤ 47) := by
  unfold lT3
  repeat' split
  all_goals omega
theorem lS2_b (c : Int) : (lS2 c = -1 ∧ c ≠ 43 ∧ c ≠ 45) ∨ (2 ≤ lS2 c ∧ lS2 c ≤ 3 ∧ 43 ≤ c ∧ c ≤ 45) := by
  unfold lS2
  repeat' split
  all_goals omega
theorem lC3_b (c : Int) : (lC3 c = -1 ∧ c ≠ 60 ∧ c ≠ 61 ∧ c ≠ 62) ∨ (7 ≤ lC3 c ∧ lC3 c ≤ 9 ∧ 60 ≤ c ∧ c ≤ 62) := by
  unfold lC3
  repeat' split
  all_goals omega
theorem lV_b {H : Int → Int} {p : Int} : ∀ {L : Nat}, (∀ i : Nat, i < L → tDg (H (p + i))) → 0 ≤ lV H p L ∧ lV H p L + 1 ≤ 10 ^ L
  | 0, _ => ⟨Int.le_refl _, Int.le_refl _⟩
  | L + 1, h => by
    have h1 := lV_b (H := H) (p := p) (L := L) (fun i hi => h i (by omega))
    have h2 := h L (by omega)
    unfold tDg at h2
    have e : (10 : Int) ^ (L + 1) = 10 * 10 ^ L := by rw [Int.pow_succ, Int.mul_comm]
    show 0 ≤ 10 * lV H p L + (H (p + L) - 48) ∧ 10 * lV H p L + (H (p + L) - 48) + 1 ≤ 10 ^ (L + 1)
    rw [e]
    omega
theorem lNu_b {H : Int → Int} {p x q : Int} (h : lNu H p x q) : 0 ≤ x ∧ x ≤ 99999 ∧ p < q ∧ q ≤ p + 5 ∧ tDg (H p) ∧ tDg (H (q - 1)) := by
  obtain ⟨L, h1, h2, h3, h4, rfl, rfl⟩ := h
  have h5 := lV_b h3
  have h6 : (10 : Int) ^ L ≤ 100000 := by
    have : L = 1 ∨ L = 2 ∨ L = 3 ∨ L = 4 ∨ L = 5 := by omega
    rcases this with rfl | rfl | rfl | rfl | rfl <;> decide
  refine ⟨h5.1, by omega, by omega, by omega, ?_, ?_⟩
  · have := h3 0 (by omega)
    rw [show p + ((0 : Nat) : Int) = p by omega] at this
    exact this
  · have := h3 (L - 1) (by omega)
    rw [show p + ((L - 1 : Nat) : Int) = p + (L : Int) - 1 by omega] at this
    exact this
theorem lNu_d {H : Int → Int} {p x q x' q' : Int} (h : lNu H p x q) (h' : lNu H p x' q') : x = x' ∧ q = q' := by
  obtain ⟨L, h1, h2, h3, h4, rfl, rfl⟩ := h
  obtain ⟨L', g1, g2, g3, g4, rfl, rfl⟩ := h'
  have : L = L' := by
    rcases Nat.lt_trichotomy L L' with q | q | q
    · exact absurd (g3 L q) h4
    · exact q
    · exact absurd (h3 L' q) g4
  subst this
  exact ⟨rfl, rfl⟩
theorem lNuf {H : Int → Int} {p x q f : Int} (h : lNu H p x q) (h' : lNf H p f) : False := by
  obtain ⟨L, h1, h2, h3, h4, rfl, rfl⟩ := h
  exact h4 (h'.1 L (by omega))
def lP (n p k : Int) : Prop := 0 ≤ p ∧ p ≤ n ∧ 0 ≤ k ∧ k ≤ p
def lCl (H : Int → Int) (n : Int) (I : Nat → Nat → Int → Int → tC → tC → lR → Prop) : Prop :=
  (∀ (d : Nat) (p k : Int) (o v : tC), lP n p k → H p = 91 → 6 ≤ d → I 0 d p k o v (.inl (-5000 - p))) ∧
  (∀ (d : Nat) (p k : Int) (o v : tC) (f : Int), lP n p k → H p = 91 → d < 6 → I 4 (d + 1) (p + 1) k o v (.inl (f)) → I 0 d p k o v (.inl (f))) ∧
  (∀ (d : Nat) (p k : Int) (o v : tC) (p1 k1 : Int) (o1 v1 : tC), lP n p k → H p = 91 → d < 6 → I 4 (d + 1) (p + 1) k o v (.inr (p1, k1, o1, v1)) → lP n p1 k1 → H p1 ≠ 93 → I 0 d p k o v (.inl (-1000 - p1))) ∧
  (∀ (d : Nat) (p k : Int) (o v : tC) (p1 k1 : Int) (o1 v1 : tC), lP n p k → H p = 91 → d < 6 → I 4 (d + 1) (p + 1) k o v (.inr (p1, k1, o1, v1)) → lP n p1 k1 → H p1 = 93 → I 0 d p k o v (.inr (p1 + 1, k1, o1, v1))) ∧
  (∀ (d : Nat) (p k : Int) (o v : tC) (x q : Int), lP n p k → lNu H p x q → I 0 d p k o v (.inr (q, k + 1, updI o (k).toNat 0, updI v (k).toNat x))) ∧
  (∀ (d : Nat) (p k : Int) (o v : tC) (f : Int), lP n p k → lNf H p f → I 0 d p k o v (.inl (f))) ∧
  (∀ (d : Nat) (p k : Int) (o v : tC), lP n p k → 0 ≤ lFa (H p) → I 0 d p k o v (.inr (p + 1, k + 1, updI o (k).toNat 1, updI v (k).toNat (lFa (H p))))) ∧
  (∀ (d : Nat) (p k : Int) (o v : tC), lP n p k → H p ≠ 91 → ¬ tDg (H p) → lFa (H p) = -1 → I 0 d p k o v (.inl (-1000 - p))) ∧
  (∀ (d : Nat) (p k : Int) (o v : tC), lP n p k → lT3 (H p) = -1 → I 1 d p k o v (.inr (p, k, o, v))) ∧
  (∀ (d : Nat) (p k : Int) (o v : tC) (f : Int), lP n p k → 4 ≤ lT3 (H p) → I 0 d (p + 1) k o v (.inl (f)) → I 1 d p k o v (.inl (f))) ∧
  (∀ (d : Nat) (p k : Int) (o v : tC) (p1 k1 : Int) (o1 v1 : tC) (r : lR), lP n p k → 4 ≤ lT3 (H p) → I 0 d (p + 1) k o v (.inr (p1, k1, o1, v1)) → lP n p1 (k1 + 1) → I 1 d p1 (k1 + 1) (updI o1 (k1).toNat (lT3 (H p))) (updI v1 (k1).toNat 0) r → I 1 d p k o v r) ∧
  (∀ (d : Nat) (p k : Int) (o v : tC), lP n p k → lS2 (H p) = -1 → I 3 d p k o v (.inr (p, k, o, v))) ∧
  (∀ (d : Nat) (p k : Int) (o v : tC) (f : Int), lP n p k → 2 ≤ lS2 (H p) → I 2 d (p + 1) k o v (.inl (f)) → I 3 d p k o v (.inl (f))) ∧
  (∀ (d : Nat) (p k : Int) (o v : tC) (p1 k1 : Int) (o1 v1 : tC) (r : lR), lP n p k → 2 ≤ lS2 (H p) → I 2 d (p + 1) k o v (.inr (p1, k1, o1, v1)) → lP n p1 (k1 + 1) → I 3 d p1 (k1 + 1) (updI o1 (k1).toNat (lS2 (H p))) (updI v1 (k1).toNat 0) r → I 3 d p k o v r) ∧
  (∀ (d : Nat) (p k : Int) (o v : tC) (f : Int), lP n p k → I 0 d p k o v (.inl (f)) → I 2 d p k o v (.inl (f))) ∧
  (∀ (d : Nat) (p k : Int) (o v : tC) (p1 k1 : Int) (o1 v1 : tC) (r : lR), lP n p k → I 0 d p k o v (.inr (p1, k1, o1, v1)) → lP n p1 k1 → I 1 d p1 k1 o1 v1 r → I 2 d p k o v r) ∧
  (∀ (d : Nat) (p k : Int) (o v : tC) (f : Int), lP n p k → I 2 d p k o v (.inl (f)) → I 4 d p k o v (.inl (f))) ∧
  (∀ (d : Nat) (p k : Int) (o v : tC) (p1 k1 : Int) (o1 v1 : tC) (r : lR), lP n p k → I 2 d p k o v (.inr (p1, k1, o1, v1)) → lP n p1 k1 → I 3 d p1 k1 o1 v1 r → I 4 d p k o v r) ∧
  (∀ (d : Nat) (p k : Int) (o v : tC) (f : Int), lP n p k → I 6 d p k o v (.inl (f)) → I 8 d p k o v (.inl (f))) ∧
  (∀ (d : Nat) (p k : Int) (o v : tC) (p1 k1 : Int) (o1 v1 : tC) (r : lR), lP n p k → I 6 d p k o v (.inr (p1, k1, o1, v1)) → lP n p1 k1 → I 7 d p1 k1 o1 v1 r → I 8 d p k o v r) ∧
  (∀ (d : Nat) (p k : Int) (o v : tC) (f : Int), lP n p k → I 8 d p k o v (.inl (f)) → I 10 d p k o v (.inl (f))) ∧
  (∀ (d : Nat) (p k : Int) (o v : tC) (p1 k1 : Int) (o1 v1 : tC) (r : lR), lP n p k → I 8 d p k o v (.inr (p1, k1, o1, v1)) → lP n p1 k1 → I 9 d p1 k1 o1 v1 r → I 10 d p k o v r) ∧
  (∀ (d : Nat) (p k : Int) (o v : tC) (f : Int), lP n p k → I 4 d p k o v (.inl (f)) → I 5 d p k o v (.inl (f))) ∧
  (∀ (d : Nat) (p k : Int) (o v : tC) (p1 k1 : Int) (o1 v1 : tC), lP n p k → I 4 d p k o v (.inr (p1, k1, o1, v1)) → lP n p1 k1 → lC3 (H p1) = -1 → I 5 d p k o v (.inl (-1000 - p1))) ∧
  (∀ (d : Nat) (p k : Int) (o v : tC) (p1 k1 : Int) (o1 v1 : tC) (f : Int), lP n p k → I 4 d p k o v (.inr (p1, k1, o1, v1)) → lP n p1 k1 → 7 ≤ lC3 (H p1) → I 4 d (p1 + 1) k1 o1 v1 (.inl (f)) → I 5 d p k o v (.inl (f))) ∧
  (∀ (d : Nat) (p k : Int) (o v : tC) (p1 k1 : Int) (o1 v1 : tC) (p2 k2 : Int) (o2 v2 : tC), lP n p k → I 4 d p k o v (.inr (p1, k1, o1, v1)) → lP n p1 k1 → 7 ≤ lC3 (H p1) → I 4 d (p1 + 1) k1 o1 v1 (.inr (p2, k2, o2, v2)) → lP n p2 (k2 + 1) → I 5 d p k o v (.inr (p2, k2 + 1, updI o2 (k2).toNat (lC3 (H p1)), updI v2 (k2).toNat 0))) ∧
  (∀ (d : Nat) (p k : Int) (o v : tC), lP n p k → H p = 33 → 6 ≤ d → I 6 d p k o v (.inl (-5000 - p))) ∧
  (∀ (d : Nat) (p k : Int) (o v : tC) (f : Int), lP n p k → H p = 33 → d < 6 → I 6 (d + 1) (p + 1) k o v (.inl (f)) → I 6 d p k o v (.inl (f))) ∧
  (∀ (d : Nat) (p k : Int) (o v : tC) (p1 k1 : Int) (o1 v1 : tC), lP n p k → H p = 33 → d < 6 → I 6 (d + 1) (p + 1) k o v (.inr (p1, k1, o1, v1)) → lP n p1 (k1 + 1) → I 6 d p k o v (.inr (p1, k1 + 1, updI o1 (k1).toNat 10, updI v1 (k1).toNat 0))) ∧
  (∀ (d : Nat) (p k : Int) (o v : tC), lP n p k → H p = 40 → 6 ≤ d → I 6 d p k o v (.inl (-5000 - p))) ∧
  (∀ (d : Nat) (p k : Int) (o v : tC) (f : Int), lP n p k → H p = 40 → d < 6 → I 10 (d + 1) (p + 1) k o v (.inl (f)) → I 6 d p k o v (.inl (f))) ∧
  (∀ (d : Nat) (p k : Int) (o v : tC) (p1 k1 : Int) (o1 v1 : tC), lP n p k → H p = 40 → d < 6 → I 10 (d + 1) (p + 1) k o v (.inr (p1, k1, o1, v1)) → lP n p1 k1 → H p1 ≠ 41 → I 6 d p k o v (.inl (-1000 - p1))) ∧
  (∀ (d : Nat) (p k : Int) (o v : tC) (p1 k1 : Int) (o1 v1 : tC), lP n p k → H p = 40 → d < 6 → I 10 (d + 1) (p + 1) k o v (.inr (p1, k1, o1, v1)) → lP n p1 k1 → H p1 = 41 → I 6 d p k o v (.inr (p1 + 1, k1, o1, v1))) ∧
  (∀ (d : Nat) (p k : Int) (o v : tC) (r : lR), lP n p k → H p ≠ 33 → H p ≠ 40 → I 5 d p k o v r → I 6 d p k o v r) ∧
  (∀ (d : Nat) (p k : Int) (o v : tC), lP n p k → H p ≠ 38 → I 7 d p k o v (.inr (p, k, o, v))) ∧
  (∀ (d : Nat) (p k : Int) (o v : tC) (f : Int), lP n p k → H p = 38 → I 6 d (p + 1) (k + 1) (updI o (k).toNat 11) (updI v (k).toNat 0) (.inl (f)) → I 7 d p k o v (.inl (f))) ∧
  (∀ (d : Nat) (p k : Int) (o v : tC) (p1 k1 : Int) (o1 v1 : tC) (r : lR), lP n p k → H p = 38 → I 6 d (p + 1) (k + 1) (updI o (k).toNat 11) (updI v (k).toNat 0) (.inr (p1, k1, o1, v1)) → lP n p1 k1 → k < k1 → I 7 d p1 k1 o1 (updI v1 (k).toNat k1) r → I 7 d p k o v r) ∧
  (∀ (d : Nat) (p k : Int) (o v : tC), lP n p k → H p ≠ 124 → I 9 d p k o v (.inr (p, k, o, v))) ∧
  (∀ (d : Nat) (p k : Int) (o v : tC) (f : Int), lP n p k → H p = 124 → I 8 d (p + 1) (k + 1) (updI o (k).toNat 12) (updI v (k).toNat 0) (.inl (f)) → I 9 d p k o v (.inl (f))) ∧
  (∀ (d : Nat) (p k : Int) (o v : tC) (p1 k1 : Int) (o1 v1 : tC) (r : lR), lP n p k → H p = 124 → I 8 d (p + 1) (k + 1) (updI o (k).toNat 12) (updI v (k).toNat 0) (.inr (p1, k1, o1, v1)) → lP n p1 k1 → k < k1 → I 9 d p1 k1 o1 (updI v1 (k).toNat k1) r → I 9 d p k o v r)
def lI (H : Int → Int) (n : Int) (K d : Nat) (p k : Int) (o v : tC) (r : lR) : Prop := ∀ I, lCl H n I → I K d p k o v r
theorem lc_F1 {H : Int → Int} {n : Int} {I : Nat → Nat → Int → Int → tC → tC → lR → Prop} (hC : lCl H n I) : ∀ (d : Nat) (p k : Int) (o v : tC), lP n p k → H p = 91 → 6 ≤ d → I 0 d p k o v (.inl (-5000 - p)) := hC.1
theorem lx_F1 {H : Int → Int} {n : Int} {d : Nat} {p k : Int} {o v : tC} (h0 : lP n p k) (h1 : H p = 91) (h2 : 6 ≤ d) : lI H n 0 d p k o v (.inl (-5000 - p)) := fun I hC => lc_F1 hC d p k o v h0 h1 h2
theorem lc_F2 {H : Int → Int} {n : Int} {I : Nat → Nat → Int → Int → tC → tC → lR → Prop} (hC : lCl H n I) : ∀ (d : Nat) (p k : Int) (o v : tC) (f : Int), lP n p k → H p = 91 → d < 6 → I 4 (d + 1) (p + 1) k o v (.inl (f)) → I 0 d p k o v (.inl (f)) := hC.2.1
theorem lx_F2 {H : Int → Int} {n : Int} {d : Nat} {p k : Int} {o v : tC} {f : Int} (h0 : lP n p k) (h1 : H p = 91) (h2 : d < 6) (h3 : lI H n 4 (d + 1) (p + 1) k o v (.inl (f))) : lI H n 0 d p k o v (.inl (f)) := fun I hC => lc_F2 hC d p k o v f h0 h1 h2 (h3 I hC)
theorem lc_F3 {H : Int → Int} {n : Int} {I : Nat → Nat → Int → Int → tC → tC → lR → Prop} (hC : lCl H n I) : ∀ (d : Nat) (p k : Int) (o v : tC) (p1 k1 : Int) (o1 v1 : tC), lP n p k → H p = 91 → d < 6 → I 4 (d + 1) (p + 1) k o v (.inr (p1, k1, o1, v1)) → lP n p1 k1 → H p1 ≠ 93 → I 0 d p k o v (.inl (-1000 - p1)) := hC.2.2.1
theorem lx_F3 {H : Int → Int} {n : Int} {d : Nat} {p k : Int} {o v : tC} {p1 k1 : Int} {o1 v1 : tC} (h0 : lP n p k) (h1 : H p = 91) (h2 : d < 6) (h3 : lI H n 4 (d + 1) (p + 1) k o v (.inr (p1, k1, o1, v1))) (h4 : lP n p1 k1) (h5 : H p1 ≠ 93) : lI H n 0 d p k o v (.inl (-1000 - p1)) := fun I hC => lc_F3 hC d p k o v p1 k1 o1 v1 h0 h1 h2 (h3 I hC) h4 h5
theorem lc_F4 {H : Int → Int} {n : Int} {I : Nat → Nat → Int → Int → tC → tC → lR → Prop} (hC : lCl H n I) : ∀ (d : Nat) (p k : Int) (o v : tC) (p1 k1 : Int) (o1 v1 : tC), lP n p k → H p = 91 → d < 6 → I 4 (d + 1) (p + 1) k o v (.inr (p1, k1, o1, v1)) → lP n p1 k1 → H p1 = 93 → I 0 d p k o v (.inr (p1 + 1, k1, o1, v1)) := hC.2.2.2.1
theorem lx_F4 {H : Int → Int} {n : Int} {d : Nat} {p k : Int} {o v : tC} {p1 k1 : Int} {o1 v1 : tC} (h0 : lP n p k) (h1 : H p = 91) (h2 : d < 6) (h3 : lI H n 4 (d + 1) (p + 1) k o v (.inr (p1, k1, o1, v1))) (h4 : lP n p1 k1) (h5 : H p1 = 93) : lI H n 0 d p k o v (.inr (p1 + 1, k1, o1, v1)) := fun I hC => lc_F4 hC d p k o v p1 k1 o1 v1 h0 h1 h2 (h3 I hC) h4 h5
theorem lc_F5 {H : Int → Int} {n : Int} {I : Nat → Nat → Int → Int → tC → tC → lR → Prop} (hC : lCl H n I) : ∀ (d : Nat) (p k : Int) (o v : tC) (x q : Int), lP n p k → lNu H p x q → I 0 d p k o v (.inr (q, k + 1, updI o (k).toNat 0, updI v (k).toNat x)) := hC.2.2.2.2.1
theorem lx_F5 {H : Int → Int} {n : Int} {d : Nat} {p k : Int} {o v : tC} {x q : Int} (h0 : lP n p k) (h1 : lNu H p x q) : lI H n 0 d p k o v (.inr (q, k + 1, updI o (k).toNat 0, updI v (k).toNat x)) := fun I hC => lc_F5 hC d p k o v x q h0 h1
theorem lc_F6 {H : Int → Int} {n : Int} {I : Nat → Nat → Int → Int → tC → tC → lR → Prop} (hC : lCl H n I) : ∀ (d : Nat) (p k : Int) (o v : tC) (f : Int), lP n p k → lNf H p f → I 0 d p k o v (.inl (f)) := hC.2.2.2.2.2.1
theorem lx_F6 {H : Int → Int} {n : Int} {d : Nat} {p k : Int} {o v : tC} {f : Int} (h0 : lP n p k) (h1 : lNf H p f) : lI H n 0 d p k o v (.inl (f)) := fun I hC => lc_F6 hC d p k o v f h0 h1
theorem lc_F7 {H : Int → Int} {n : Int} {I : Nat → Nat → Int → Int → tC → tC → lR → Prop} (hC : lCl H n I) : ∀ (d : Nat) (p k : Int) (o v : tC), lP n p k → 0 ≤ lFa (H p) → I 0 d p k o v (.inr (p + 1, k + 1, updI o (k).toNat 1, updI v (k).toNat (lFa (H p)))) := hC.2.2.2.2.2.2.1
theorem lx_F7 {H : Int → Int} {n : Int} {d : Nat} {p k : Int} {o v : tC} (h0 : lP n p k) (h1 : 0 ≤ lFa (H p)) : lI H n 0 d p k o v (.inr (p + 1, k + 1, updI o (k).toNat 1, updI v (k).toNat (lFa (H p)))) := fun I hC => lc_F7 hC d p k o v h0 h1
theorem lc_F8 {H : Int → Int} {n : Int} {I : Nat → Nat → Int → Int → tC → tC → lR → Prop} (hC : lCl H n I) : ∀ (d : Nat) (p k : Int) (o v : tC), lP n p k → H p ≠ 91 → ¬ tDg (H p) → lFa (H p) = -1 → I 0 d p k o v (.inl (-1000 - p)) := hC.2.2.2.2.2.2.2.1
theorem lx_F8 {H : Int → Int} {n : Int} {d : Nat} {p k : Int} {o v : tC} (h0 : lP n p k) (h1 : H p ≠ 91) (h2 : ¬ tDg (H p)) (h3 : lFa (H p) = -1) : lI H n 0 d p k o v (.inl (-1000 - p)) := fun I hC => lc_F8 hC d p k o v h0 h1 h2 h3
theorem lc_T1 {H : Int → Int} {n : Int} {I : Nat → Nat → Int → Int → tC → tC → lR → Prop} (hC : lCl H n I) : ∀ (d : Nat) (p k : Int) (o v : tC), lP n p k → lT3 (H p) = -1 → I 1 d p k o v (.inr (p, k, o, v)) := hC.2.2.2.2.2.2.2.2.1
theorem lx_T1 {H : Int → Int} {n : Int} {d : Nat} {p k : Int} {o v : tC} (h0 : lP n p k) (h1 : lT3 (H p) = -1) : lI H n 1 d p k o v (.inr (p, k, o, v)) := fun I hC => lc_T1 hC d p k o v h0 h1
theorem lc_T2 {H : Int → Int} {n : Int} {I : Nat → Nat → Int → Int → tC → tC → lR → Prop} (hC : lCl H n I) : ∀ (d : Nat) (p k : Int) (o v : tC) (f : Int), lP n p k → 4 ≤ lT3 (H p) → I 0 d (p + 1) k o v (.inl (f)) → I 1 d p k o v (.inl (f)) := hC.2.2.2.2.2.2.2.2.2.1
theorem lx_T2 {H : Int → Int} {n : Int} {d : Nat} {p k : Int} {o v : tC} {f : Int} (h0 : lP n p k) (h1 : 4 ≤ lT3 (H p)) (h2 : lI H n 0 d (p + 1) k o v (.inl (f))) : lI H n 1 d p k o v (.inl (f)) := fun I hC => lc_T2 hC d p k o v f h0 h1 (h2 I hC)
theorem lc_T3 {H : Int → Int} {n : Int} {I : Nat → Nat → Int → Int → tC → tC → lR → Prop} (hC : lCl H n I) : ∀ (d : Nat) (p k : Int) (o v : tC) (p1 k1 : Int) (o1 v1 : tC) (r : lR), lP n p k → 4 ≤ lT3 (H p) → I 0 d (p + 1) k o v (.inr (p1, k1, o1, v1)) → lP n p1 (k1 + 1) → I 1 d p1 (k1 + 1) (updI o1 (k1).toNat (lT3 (H p))) (updI v1 (k1).toNat 0) r → I 1 d p k o v r := hC.2.2.2.2.2.2.2.2.2.2.1
theorem lx_T3 {H : Int → Int} {n : Int} {d : Nat} {p k : Int} {o v : tC} {p1 k1 : Int} {o1 v1 : tC} {r : lR} (h0 : lP n p k) (h1 : 4 ≤ lT3 (H p)) (h2 : lI H n 0 d (p + 1) k o v (.inr (p1, k1, o1, v1))) (h3 : lP n p1 (k1 + 1)) (h4 : lI H n 1 d p1 (k1 + 1) (updI o1 (k1).toNat (lT3 (H p))) (updI v1 (k1).toNat 0) r) : lI H n 1 d p k o v r := fun I hC => lc_T3 hC d p k o v p1 k1 o1 v1 r h0 h1 (h2 I hC) h3 (h4 I hC)
theorem lc_S1 {H : Int → Int} {n : Int} {I : Nat → Nat → Int → Int → tC → tC → lR → Prop} (hC : lCl H n I) : ∀ (d : Nat) (p k : Int) (o v : tC), lP n p k → lS2 (H p) = -1 → I 3 d p k o v (.inr (p, k, o, v)) := hC.2.2.2.2.2.2.2.2.2.2.2.1
theorem lx_S1 {H : Int → Int} {n : Int} {d : Nat} {p k : Int} {o v : tC} (h0 : lP n p k) (h1 : lS2 (H p) = -1) : lI H n 3 d p k o v (.inr (p, k, o, v)) := fun I hC => lc_S1 hC d p k o v h0 h1
theorem lc_S2 {H : Int → Int} {n : Int} {I : Nat → Nat → Int → Int → tC → tC → lR → Prop} (hC : lCl H n I) : ∀ (d : Nat) (p k : Int) (o v : tC) (f : Int), lP n p k → 2 ≤ lS2 (H p) → I 2 d (p + 1) k o v (.inl (f)) → I 3 d p k o v (.inl (f)) := hC.2.2.2.2.2.2.2.2.2.2.2.2.1
theorem lx_S2 {H : Int → Int} {n : Int} {d : Nat} {p k : Int} {o v : tC} {f : Int} (h0 : lP n p k) (h1 : 2 ≤ lS2 (H p)) (h2 : lI H n 2 d (p + 1) k o v (.inl (f))) : lI H n 3 d p k o v (.inl (f)) := fun I hC => lc_S2 hC d p k o v f h0 h1 (h2 I hC)
theorem lc_S3 {H : Int → Int} {n : Int} {I : Nat → Nat → Int → Int → tC → tC → lR → Prop} (hC : lCl H n I) : ∀ (d : Nat) (p k : Int) (o v : tC) (p1 k1 : Int) (o1 v1 : tC) (r : lR), lP n p k → 2 ≤ lS2 (H p) → I 2 d (p + 1) k o v (.inr (p1, k1, o1, v1)) → lP n p1 (k1 + 1) → I 3 d p1 (k1 + 1) (updI o1 (k1).toNat (lS2 (H p))) (updI v1 (k1).toNat 0) r → I 3 d p k o v r := hC.2.2.2.2.2.2.2.2.2.2.2.2.2.1
theorem lx_S3 {H : Int → Int} {n : Int} {d : Nat} {p k : Int} {o v : tC} {p1 k1 : Int} {o1 v1 : tC} {r : lR} (h0 : lP n p k) (h1 : 2 ≤ lS2 (H p)) (h2 : lI H n 2 d (p + 1) k o v (.inr (p1, k1, o1, v1))) (h3 : lP n p1 (k1 + 1)) (h4 : lI H n 3 d p1 (k1 + 1) (updI o1 (k1).toNat (lS2 (H p))) (updI v1 (k1).toNat 0) r) : lI H n 3 d p k o v r := fun I hC => lc_S3 hC d p k o v p1 k1 o1 v1 r h0 h1 (h2 I hC) h3 (h4 I hC)
theorem lc_E1 {H : Int → Int} {n : Int} {I : Nat → Nat → Int → Int → tC → tC → lR → Prop} (hC : lCl H n I) : ∀ (d : Nat) (p k : Int) (o v : tC) (f : Int), lP n p k → I 0 d p k o v (.inl (f)) → I 2 d p k o v (.inl (f)) := hC.2.2.2.2.2.2.2.2.2.2.2.2.2.2.1
theorem lx_E1 {H : Int → Int} {n : Int} {d : Nat} {p k : Int} {o v : tC} {f : Int} (h0 : lP n p k) (h1 : lI H n 0 d p k o v (.inl (f))) : lI H n 2 d p k o v (.inl (f)) := fun I hC => lc_E1 hC d p k o v f h0 (h1 I hC)
theorem lc_E2 {H : Int → Int} {n : Int} {I : Nat → Nat → Int → Int → tC → tC → lR → Prop} (hC : lCl H n I) : ∀ (d : Nat) (p k : Int) (o v : tC) (p1 k1 : Int) (o1 v1 : tC) (r : lR), lP n p k → I 0 d p k o v (.inr (p1, k1, o1, v1)) → lP n p1 k1 → I 1 d p1 k1 o1 v1 r → I 2 d p k o v r := hC.2.2.2.2.2.2.2.2.2.2.2.2.2.2.2.1
theorem lx_E2 {H : Int → Int} {n : Int} {d : Nat} {p k : Int} {o v : tC} {p1 k1 : Int} {o1 v1 : tC} {r : lR} (h0 : lP n p k) (h1 : lI H n 0 d p k o v (.inr (p1, k1, o1, v1))) (h2 : lP n p1 k1) (h3 : lI H n 1 d p1 k1 o1 v1 r) : lI H n 2 d p k o v r := fun I hC => lc_E2 hC d p k o v p1 k1 o1 v1 r h0 (h1 I hC) h2 (h3 I hC)
theorem lc_U1 {H : Int → Int} {n : Int} {I : Nat → Nat → Int → Int → tC → tC → lR → Prop} (hC : lCl H n I) : ∀ (d : Nat) (p k : Int) (o v : tC) (f : Int), lP n p k → I 2 d p k o v (.inl (f)) → I 4 d p k o v (.inl (f)) := hC.2.2.2.2.2.2.2.2.2.2.2.2.2.2.2.2.1
theorem lx_U1 {H : Int → Int} {n : Int} {d : Nat} {p k : Int} {o v : tC} {f : Int} (h0 : lP n p k) (h1 : lI H n 2 d p k o v (.inl (f))) : lI H n 4 d p k o v (.inl (f)) := fun I hC => lc_U1 hC d p k o v f h0 (h1 I hC)
theorem lc_U2 {H : Int → Int} {n : Int} {I : Nat → Nat → Int → Int → tC → tC → lR → Prop} (hC : lCl H n I) : ∀ (d : Nat) (p k : Int) (o v : tC) (p1 k1 : Int) (o1 v1 : tC) (r : lR), lP n p k → I 2 d p k o v (.inr (p1, k1, o1, v1)) → lP n p1 k1 → I 3 d p1 k1 o1 v1 r → I 4 d p k o v r := hC.2.2.2.2.2.2.2.2.2.2.2.2.2.2.2.2.2.1
theorem lx_U2 {H : Int → Int} {n : Int} {d : Nat} {p k : Int} {o v : tC} {p1 k1 : Int} {o1 v1 : tC} {r : lR} (h0 : lP n p k) (h1 : lI H n 2 d p k o v (.inr (p1, k1, o1, v1))) (h2 : lP n p1 k1) (h3 : lI H n 3 d p1 k1 o1 v1 r) : lI H n 4 d p k o v r := fun I hC => lc_U2 hC d p k o v p1 k1 o1 v1 r h0 (h1 I hC) h2 (h3 I hC)
theorem lc_B1 {H : Int → Int} {n : Int} {I : Nat → Nat → Int → Int → tC → tC → lR → Prop} (hC : lCl H n I) : ∀ (d : Nat) (p k : Int) (o v : tC) (f : Int), lP n p k → I 6 d p k o v (.inl (f)) → I 8 d p k o v (.inl (f)) := hC.2.2.2.2.2.2.2.2.2.2.2.2.2.2.2.2.2.2.1
theorem lx_B1 {H : Int → Int} {n : Int} {d : Nat} {p k : Int} {o v : tC} {f : Int} (h0 : lP n p k) (h1 : lI H n 6 d p k o v (.inl (f))) : lI H n 8 d p k o v (.inl (f)) := fun I hC => lc_B1 hC d p k o v f h0 (h1 I hC)
theorem lc_B2 {H : Int → Int} {n : Int} {I : Nat → Nat → Int → Int → tC → tC → lR → Prop} (hC : lCl H n I) : ∀ (d : Nat) (p k : Int) (o v : tC) (p1 k1 : Int) (o1 v1 : tC) (r : lR), lP n p k → I 6 d p k o v (.inr (p1, k1, o1, v1)) → lP n p1 k1 → I 7 d p1 k1 o1 v1 r → I 8 d p k o v r := hC.2.2.2.2.2.2.2.2.2.2.2.2.2.2.2.2.2.2.2.1
theorem lx_B2 {H : Int → Int} {n : Int} {d : Nat} {p k : Int} {o v : tC} {p1 k1 : Int} {o1 v1 : tC} {r : lR} (h0 : lP n p k) (h1 : lI H n 6 d p k o v (.inr (p1, k1, o1, v1))) (h2 : lP n p1 k1) (h3 : lI H n 7 d p1 k1 o1 v1 r) : lI H n 8 d p k o v r := fun I hC => lc_B2 hC d p k o v p1 k1 o1 v1 r h0 (h1 I hC) h2 (h3 I hC)
theorem lc_D1 {H : Int → Int} {n : Int} {I : Nat → Nat → Int → Int → tC → tC → lR → Prop} (hC : lCl H n I) : ∀ (d : Nat) (p k : Int) (o v : tC) (f : Int), lP n p k → I 8 d p k o v (.inl (f)) → I 10 d p k o v (.inl (f)) := hC.2.2.2.2.2.2.2.2.2.2.2.2.2.2.2.2.2.2.2.2.1
theorem lx_D1 {H : Int → Int} {n : Int} {d : Nat} {p k : Int} {o v : tC} {f : Int} (h0 : lP n p k) (h1 : lI H n 8 d p k o v (.inl (f))) : lI H n 10 d p k o v (.inl (f)) := fun I hC => lc_D1 hC d p k o v f h0 (h1 I hC)
theorem lc_D2 {H : Int → Int} {n : Int} {I : Nat → Nat → Int → Int → tC → tC → lR → Prop} (hC : lCl H n I) : ∀ (d : Nat) (p k : Int) (o v : tC) (p1 k1 : Int) (o1 v1 : tC) (r : lR), lP n p k → I 8 d p k o v (.inr (p1, k1, o1, v1)) → lP n p1 k1 → I 9 d p1 k1 o1 v1 r → I 10 d p k o v r := hC.2.2.2.2.2.2.2.2.2.2.2.2.2.2.2.2.2.2.2.2.2.1
theorem lx_D2 {H : Int → Int} {n : Int} {d : Nat} {p k : Int} {o v : tC} {p1 k1 : Int} {o1 v1 : tC} {r : lR} (h0 : lP n p k) (h1 : lI H n 8 d p k o v (.inr (p1, k1, o1, v1))) (h2 : lP n p1 k1) (h3 : lI H n 9 d p1 k1 o1 v1 r) : lI H n 10 d p k o v r := fun I hC => lc_D2 hC d p k o v p1 k1 o1 v1 r h0 (h1 I hC) h2 (h3 I hC)
theorem lc_C1 {H : Int → Int} {n : Int} {I : Nat → Nat → Int → Int → tC → tC → lR → Prop} (hC : lCl H n I) : ∀ (d : Nat) (p k : Int) (o v : tC) (f : Int), lP n p k → I 4 d p k o v (.inl (f)) → I 5 d p k o v (.inl (f)) := hC.2.2.2.2.2.2.2.2.2.2.2.2.2.2.2.2.2.2.2.2.2.2.1
theorem lx_C1 {H : Int → Int} {n : Int} {d : Nat} {p k : Int} {o v : tC} {f : Int} (h0 : lP n p k) (h1 : lI H n 4 d p k o v (.inl (f))) : lI H n 5 d p k o v (.inl (f)) := fun I hC => lc_C1 hC d p k o v f h0 (h1 I hC)
theorem lc_C2 {H : Int → Int} {n : Int} {I : Nat → Nat → Int → Int → tC → tC → lR → Prop} (hC : lCl H n I) : ∀ (d : Nat) (p k : Int) (o v : tC) (p1 k1 : Int) (o1 v1 : tC), lP n p k → I 4 d p k o v (.inr (p1, k1, o1, v1)) → lP n p1 k1 → lC3 (H p1) = -1 → I 5 d p k o v (.inl (-1000 - p1)) := hC.2.2.2.2.2.2.2.2.2.2.2.2.2.2.2.2.2.2.2.2.2.2.2.1
theorem lx_C2 {H : Int → Int} {n : Int} {d : Nat} {p k : Int} {o v : tC} {p1 k1 : Int} {o1 v1 : tC} (h0 : lP n p k) (h1 : lI H n 4 d p k o v (.inr (p1, k1, o1, v1))) (h2 : lP n p1 k1) (h3 : lC3 (H p1) = -1) : lI H n 5 d p k o v (.inl (-1000 - p1)) := fun I hC => lc_C2 hC d p k o v p1 k1 o1 v1 h0 (h1 I hC) h2 h3
theorem lc_C3 {H : Int → Int} {n : Int} {I : Nat → Nat → Int → Int → tC → tC → lR → Prop} (hC : lCl H n I) : ∀ (d : Nat) (p k : Int) (o v : tC) (p1 k1 : Int) (o1 v1 : tC) (f : Int), lP n p k → I 4 d p k o v (.inr (p1, k1, o1, v1)) → lP n p1 k1 → 7 ≤ lC3 (H p1) → I 4 d (p1 + 1) k1 o1 v1 (.inl (f)) → I 5 d p k o v (.inl (f)) := hC.2.2.2.2.2.2.2.2.2.2.2.2.2.2.2.2.2.2.2.2.2.2.2.2.1
theorem lx_C3 {H : Int → Int} {n : Int} {d : Nat} {p k : Int} {o v : tC} {p1 k1 : Int} {o1 v1 : tC} {f : Int} (h0 : lP n p k) (h1 : lI H n 4 d p k o v (.inr (p1, k1, o1, v1))) (h2 : lP n p1 k1) (h3 : 7 ≤ lC3 (H p1)) (h4 : lI H n 4 d (p1 + 1) k1 o1 v1 (.inl (f))) : lI H n 5 d p k o v (.inl (f)) := fun I hC => lc_C3 hC d p k o v p1 k1 o1 v1 f h0 (h1 I hC) h2 h3 (h4 I hC)
theorem lc_C4 {H : Int → Int} {n : Int} {I : Nat → Nat → Int → Int → tC → tC → lR → Prop} (hC : lCl H n I) : ∀ (d : Nat) (p k : Int) (o v : tC) (p1 k1 : Int) (o1 v1 : tC) (p2 k2 : Int) (o2 v2 : tC), lP n p k → I 4 d p k o v (.inr (p1, k1, o1, v1)) → lP n p1 k1 → 7 ≤ lC3 (H p1) → I 4 d (p1 + 1) k1 o1 v1 (.inr (p2, k2, o2, v2)) → lP n p2 (k2 + 1) → I 5 d p k o v (.inr (p2, k2 + 1, updI o2 (k2).toNat (lC3 (H p1)), updI v2 (k2).toNat 0)) := hC.2.2.2.2.2.2.2.2.2.2.2.2.2.2.2.2.2.2.2.2.2.2.2.2.2.1
theorem lx_C4 {H : Int → Int} {n : Int} {d : Nat} {p k : Int} {o v : tC} {p1 k1 : Int} {o1 v1 : tC} {p2 k2 : Int} {o2 v2 : tC} (h0 : lP n p k) (h1 : lI H n 4 d p k o v (.inr (p1, k1, o1, v1))) (h2 : lP n p1 k1) (h3 : 7 ≤ lC3 (H p1)) (h4 : lI H n 4 d (p1 + 1) k1 o1 v1 (.inr (p2, k2, o2, v2))) (h5 : lP n p2 (k2 + 1)) : lI H n 5 d p k o v (.inr (p2, k2 + 1, updI o2 (k2).toNat (lC3 (H p1)), updI v2 (k2).toNat 0)) := fun I hC => lc_C4 hC d p k o v p1 k1 o1 v1 p2 k2 o2 v2 h0 (h1 I hC) h2 h3 (h4 I hC) h5
theorem lc_P1 {H : Int → Int} {n : Int} {I : Nat → Nat → Int → Int → tC → tC → lR → Prop} (hC : lCl H n I) : ∀ (d : Nat) (p k : Int) (o v : tC), lP n p k → H p = 33 → 6 ≤ d → I 6 d p k o v (.inl (-5000 - p)) := hC.2.2.2.2.2.2.2.2.2.2.2.2.2.2.2.2.2.2.2.2.2.2.2.2.2.2.1
theorem lx_P1 {H : Int → Int} {n : Int} {d : Nat} {p k : Int} {o v : tC} (h0 : lP n p k) (h1 : H p = 33) (h2 : 6 ≤ d) : lI H n 6 d p k o v (.inl (-5000 - p)) := fun I hC => lc_P1 hC d p k o v h0 h1 h2
theorem lc_P2 {H : Int → Int} {n : Int} {I : Nat → Nat → Int → Int → tC → tC → lR → Prop} (hC : lCl H n I) : ∀ (d : Nat) (p k : Int) (o v : tC) (f : Int), lP n p k → H p = 33 → d < 6 → I 6 (d + 1) (p + 1) k o v (.inl (f)) → I 6 d p k o v (.inl (f)) := hC.2.2.2.2.2.2.2.2.2.2.2.2.2.2.2.2.2.2.2.2.2.2.2.2.2.2.2.1
theorem lx_P2 {H : Int → Int} {n : Int} {d : Nat} {p k : Int} {o v : tC} {f : Int} (h0 : lP n p k) (h1 : H p = 33) (h2 : d < 6) (h3 : lI H n 6 (d + 1) (p + 1) k o v (.inl (f))) : lI H n 6 d p k o v (.inl (f)) := fun I hC => lc_P2 hC d p k o v f h0 h1 h2 (h3 I hC)
theorem lc_P3 {H : Int → Int} {n : Int} {I : Nat → Nat → Int → Int → tC → tC → lR → Prop} (hC : lCl H n I) : ∀ (d : Nat) (p k : Int) (o v : tC) (p1 k1 : Int) (o1 v1 : tC), lP n p k → H p = 33 → d < 6 → I 6 (d + 1) (p + 1) k o v (.inr (p1, k1, o1, v1)) → lP n p1 (k1 + 1) → I 6 d p k o v (.inr (p1, k1 + 1, updI o1 (k1).toNat 10, updI v1 (k1).toNat 0)) := hC.2.2.2.2.2.2.2.2.2.2.2.2.2.2.2.2.2.2.2.2.2.2.2.2.2.2.2.2.1
theorem lx_P3 {H : Int → Int} {n : Int} {d : Nat} {p k : Int} {o v : tC} {p1 k1 : Int} {o1 v1 : tC} (h0 : lP n p k) (h1 : H p = 33) (h2 : d < 6) (h3 : lI H n 6 (d + 1) (p + 1) k o v (.inr (p1, k1, o1, v1))) (h4 : lP n p1 (k1 + 1)) : lI H n 6 d p k o v (.inr (p1, k1 + 1, updI o1 (k1).toNat 10, updI v1 (k1).toNat 0)) := fun I hC => lc_P3 hC d p k o v p1 k1 o1 v1 h0 h1 h2 (h3 I hC) h4
theorem lc_P4 {H : Int → Int} {n : Int} {I : Nat → Nat → Int → Int → tC → tC → lR → Prop} (hC : lCl H n I) : ∀ (d : Nat) (p k : Int) (o v : tC), lP n p k → H p = 40 → 6 ≤ d → I 6 d p k o v (.inl (-5000 - p)) := hC.2.2.2.2.2.2.2.2.2.2.2.2.2.2.2.2.2.2.2.2.2.2.2.2.2.2.2.2.2.1
theorem lx_P4 {H : Int → Int} {n : Int} {d : Nat} {p k : Int} {o v : tC} (h0 : lP n p k) (h1 : H p = 40) (h2 : 6 ≤ d) : lI H n 6 d p k o v (.inl (-5000 - p)) := fun I hC => lc_P4 hC d p k o v h0 h1 h2
theorem lc_P5 {H : Int → Int} {n : Int} {I : Nat → Nat → Int → Int → tC → tC → lR → Prop} (hC : lCl H n I) : ∀ (d : Nat) (p k : Int) (o v : tC) (f : Int), lP n p k → H p = 40 → d < 6 → I 10 (d + 1) (p + 1) k o v (.inl (f)) → I 6 d p k o v (.inl (f)) := hC.2.2.2.2.2.2.2.2.2.2.2.2.2.2.2.2.2.2.2.2.2.2.2.2.2.2.2.2.2.2.1
theorem lx_P5 {H : Int → Int} {n : Int} {d : Nat} {p k : Int} {o v : tC} {f : Int} (h0 : lP n p k) (h1 : H p = 40) (h2 : d < 6) (h3 : lI H n 10 (d + 1) (p + 1) k o v (.inl (f))) : lI H n 6 d p k o v (.inl (f)) := fun I hC => lc_P5 hC d p k o v f h0 h1 h2 (h3 I hC)
theorem lc_P6 {H : Int → Int} {n : Int} {I : Nat → Nat → Int → Int → tC → tC → lR → Prop} (hC : lCl H n I) : ∀ (d : Nat) (p k : Int) (o v : tC) (p1 k1 : Int) (o1 v1 : tC), lP n p k → H p = 40 → d < 6 → I 10 (d + 1) (p + 1) k o v (.inr (p1, k1, o1, v1)) → lP n p1 k1 → H p1 ≠ 41 → I 6 d p k o v (.inl (-1000 - p1)) := hC.2.2.2.2.2.2.2.2.2.2.2.2.2.2.2.2.2.2.2.2.2.2.2.2.2.2.2.2.2.2.2.1
theorem lx_P6 {H : Int → Int} {n : Int} {d : Nat} {p k : Int} {o v : tC} {p1 k1 : Int} {o1 v1 : tC} (h0 : lP n p k) (h1 : H p = 40) (h2 : d < 6) (h3 : lI H n 10 (d + 1) (p + 1) k o v (.inr (p1, k1, o1, v1))) (h4 : lP n p1 k1) (h5 : H p1 ≠ 41) : lI H n 6 d p k o v (.inl (-1000 - p1)) := fun I hC => lc_P6 hC d p k o v p1 k1 o1 v1 h0 h1 h2 (h3 I hC) h4 h5
theorem lc_P7 {H : Int → Int} {n : Int} {I : Nat → Nat → Int → Int → tC → tC → lR → Prop} (hC : lCl H n I) : ∀ (d : Nat) (p k : Int) (o v : tC) (p1 k1 : Int) (o1 v1 : tC), lP n p k → H p = 40 → d < 6 → I 10 (d + 1) (p + 1) k o v (.inr (p1, k1, o1, v1)) → lP n p1 k1 → H p1 = 41 → I 6 d p k o v (.inr (p1 + 1, k1, o1, v1)) := hC.2.2.2.2.2.2.2.2.2.2.2.2.2.2.2.2.2.2.2.2.2.2.2.2.2.2.2.2.2.2.2.2.1
theorem lx_P7 {H : Int → Int} {n : Int} {d : Nat} {p k : Int} {o v : tC} {p1 k1 : Int} {o1 v1 : tC} (h0 : lP n p k) (h1 : H p = 40) (h2 : d < 6) (h3 : lI H n 10 (d + 1) (p + 1) k o v (.inr (p1, k1, o1, v1))) (h4 : lP n p1 k1) (h5 : H p1 = 41) : lI H n 6 d p k o v (.inr (p1 + 1, k1, o1, v1)) := fun I hC => lc_P7 hC d p k o v p1 k1 o1 v1 h0 h1 h2 (h3 I hC) h4 h5
theorem lc_P8 {H : Int → Int} {n : Int} {I : Nat → Nat → Int → Int → tC → tC → lR → Prop} (hC : lCl H n I) : ∀ (d : Nat) (p k : Int) (o v : tC) (r : lR), lP n p k → H p ≠ 33 → H p ≠ 40 → I 5 d p k o v r → I 6 d p k o v r := hC.2.2.2.2.2.2.2.2.2.2.2.2.2.2.2.2.2.2.2.2.2.2.2.2.2.2.2.2.2.2.2.2.2.1
theorem lx_P8 {H : Int → Int} {n : Int} {d : Nat} {p k : Int} {o v : tC} {r : lR} (h0 : lP n p k) (h1 : H p ≠ 33) (h2 : H p ≠ 40) (h3 : lI H n 5 d p k o v r) : lI H n 6 d p k o v r := fun I hC => lc_P8 hC d p k o v r h0 h1 h2 (h3 I hC)
theorem lc_A1 {H : Int → Int} {n : Int} {I : Nat → Nat → Int → Int → tC → tC → lR → Prop} (hC : lCl H n I) : ∀ (d : Nat) (p k : Int) (o v : tC), lP n p k → H p ≠ 38 → I 7 d p k o v (.inr (p, k, o, v)) := hC.2.2.2.2.2.2.2.2.2.2.2.2.2.2.2.2.2.2.2.2.2.2.2.2.2.2.2.2.2.2.2.2.2.2.1
theorem lx_A1 {H : Int → Int} {n : Int} {d : Nat} {p k : Int} {o v : tC} (h0 : lP n p k) (h1 : H p ≠ 38) : lI H n 7 d p k o v (.inr (p, k, o, v)) := fun I hC => lc_A1 hC d p k o v h0 h1
theorem lc_A2 {H : Int → Int} {n : Int} {I : Nat → Nat → Int → Int → tC → tC → lR → Prop} (hC : lCl H n I) : ∀ (d : Nat) (p k : Int) (o v : tC) (f : Int), lP n p k → H p = 38 → I 6 d (p + 1) (k + 1) (updI o (k).toNat 11) (updI v (k).toNat 0) (.inl (f)) → I 7 d p k o v (.inl (f)) := hC.2.2.2.2.2.2.2.2.2.2.2.2.2.2.2.2.2.2.2.2.2.2.2.2.2.2.2.2.2.2.2.2.2.2.2.1
theorem lx_A2 {H : Int → Int} {n : Int} {d : Nat} {p k : Int} {o v : tC} {f : Int} (h0 : lP n p k) (h1 : H p = 38) (h2 : lI H n 6 d (p + 1) (k + 1) (updI o (k).toNat 11) (updI v (k).toNat 0) (.inl (f))) : lI H n 7 d p k o v (.inl (f)) := fun I hC => lc_A2 hC d p k o v f h0 h1 (h2 I hC)
theorem lc_A3 {H : Int → Int} {n : Int} {I : Nat → Nat → Int → Int → tC → tC → lR → Prop} (hC : lCl H n I) : ∀ (d : Nat) (p k : Int) (o v : tC) (p1 k1 : Int) (o1 v1 : tC) (r : lR), lP n p k → H p = 38 → I 6 d (p + 1) (k + 1) (updI o (k).toNat 11) (updI v (k).toNat 0) (.inr (p1, k1, o1, v1)) → lP n p1 k1 → k < k1 → I 7 d p1 k1 o1 (updI v1 (k).toNat k1) r → I 7 d p k o v r := hC.2.2.2.2.2.2.2.2.2.2.2.2.2.2.2.2.2.2.2.2.2.2.2.2.2.2.2.2.2.2.2.2.2.2.2.2.1
theorem lx_A3 {H : Int → Int} {n : Int} {d : Nat} {p k : Int} {o v : tC} {p1 k1 : Int} {o1 v1 : tC} {r : lR} (h0 : lP n p k) (h1 : H p = 38) (h2 : lI H n 6 d (p + 1) (k + 1) (updI o (k).toNat 11) (updI v (k).toNat 0) (.inr (p1, k1, o1, v1))) (h3 : lP n p1 k1) (h4 : k < k1) (h5 : lI H n 7 d p1 k1 o1 (updI v1 (k).toNat k1) r) : lI H n 7 d p k o v r := fun I hC => lc_A3 hC d p k o v p1 k1 o1 v1 r h0 h1 (h2 I hC) h3 h4 (h5 I hC)
theorem lc_O1 {H : Int → Int} {n : Int} {I : Nat → Nat → Int → Int → tC → tC → lR → Prop} (hC : lCl H n I) : ∀ (d : Nat) (p k : Int) (o v : tC), lP n p k → H p ≠ 124 → I 9 d p k o v (.inr (p, k, o, v)) := hC.2.2.2.2.2.2.2.2.2.2.2.2.2.2.2.2.2.2.2.2.2.2.2.2.2.2.2.2.2.2.2.2.2.2.2.2.2.1
theorem lx_O1 {H : Int → Int} {n : Int} {d : Nat} {p k : Int} {o v : tC} (h0 : lP n p k) (h1 : H p ≠ 124) : lI H n 9 d p k o v (.inr (p, k, o, v)) := fun I hC => lc_O1 hC d p k o v h0 h1
theorem lc_O2 {H : Int → Int} {n : Int} {I : Nat → Nat → Int → Int → tC → tC → lR → Prop} (hC : lCl H n I) : ∀ (d : Nat) (p k : Int) (o v : tC) (f : Int), lP n p k → H p = 124 → I 8 d (p + 1) (k + 1) (updI o (k).toNat 12) (updI v (k).toNat 0) (.inl (f)) → I 9 d p k o v (.inl (f)) := hC.2.2.2.2.2.2.2.2.2.2.2.2.2.2.2.2.2.2.2.2.2.2.2.2.2.2.2.2.2.2.2.2.2.2.2.2.2.2.1
theorem lx_O2 {H : Int → Int} {n : Int} {d : Nat} {p k : Int} {o v : tC} {f : Int} (h0 : lP n p k) (h1 : H p = 124) (h2 : lI H n 8 d (p + 1) (k + 1) (updI o (k).toNat 12) (updI v (k).toNat 0) (.inl (f))) : lI H n 9 d p k o v (.inl (f)) := fun I hC => lc_O2 hC d p k o v f h0 h1 (h2 I hC)
theorem lc_O3 {H : Int → Int} {n : Int} {I : Nat → Nat → Int → Int → tC → tC → lR → Prop} (hC : lCl H n I) : ∀ (d : Nat) (p k : Int) (o v : tC) (p1 k1 : Int) (o1 v1 : tC) (r : lR), lP n p k → H p = 124 → I 8 d (p + 1) (k + 1) (updI o (k).toNat 12) (updI v (k).toNat 0) (.inr (p1, k1, o1, v1)) → lP n p1 k1 → k < k1 → I 9 d p1 k1 o1 (updI v1 (k).toNat k1) r → I 9 d p k o v r := hC.2.2.2.2.2.2.2.2.2.2.2.2.2.2.2.2.2.2.2.2.2.2.2.2.2.2.2.2.2.2.2.2.2.2.2.2.2.2.2
theorem lx_O3 {H : Int → Int} {n : Int} {d : Nat} {p k : Int} {o v : tC} {p1 k1 : Int} {o1 v1 : tC} {r : lR} (h0 : lP n p k) (h1 : H p = 124) (h2 : lI H n 8 d (p + 1) (k + 1) (updI o (k).toNat 12) (updI v (k).toNat 0) (.inr (p1, k1, o1, v1))) (h3 : lP n p1 k1) (h4 : k < k1) (h5 : lI H n 9 d p1 k1 o1 (updI v1 (k).toNat k1) r) : lI H n 9 d p k o v r := fun I hC => lc_O3 hC d p k o v p1 k1 o1 v1 r h0 h1 (h2 I hC) h3 h4 (h5 I hC)
