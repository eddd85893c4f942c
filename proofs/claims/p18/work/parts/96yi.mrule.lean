/-! reference: the law's text: closed under the rules -/
def lPq (k : Int) (o v : tC) (r : lR) : Prop := match r with
  | .inl _ => (0 : Nat) = 0
  | .inr (_, k1, o1, v1) => k ≤ k1 ∧ ∀ j : Nat, (j : Int) < k → o1 j = o j ∧ v1 j = v j
def lPr (_r0 : Nat) (_d : Nat) (_p k : Int) (o v : tC) (r : lR) : Prop := lPq k o v r
theorem up_o {f : tC} {k x : Int} (hk : 0 ≤ k) : ∀ j : Nat, (j : Int) < k → updI f k.toNat x j = f j := fun j hj => if_neg (by omega)
theorem up_s {f : tC} {i : Nat} {x : Int} : updI f i x i = x := if_pos rfl
theorem up_id {f : tC} {i : Nat} {x : Int} (h : f i = 0) : updI (updI f i x) i 0 = f := by
  funext j
  unfold updI
  by_cases e : j = i
  · rw [if_pos e, e, h]
  · rw [if_neg e, if_neg e]
theorem pr_cl (H : Int → Int) (n : Int) : lCl H n lPr := by
  have tr : ∀ {k k1 : Int} {o v o1 v1 : tC} {r : lR}, (k ≤ k1 ∧ ∀ j : Nat, (j : Int) < k → o1 j = o j ∧ v1 j = v j) → lPq k1 o1 v1 r → lPq k o v r := fun {k k1 o v o1 v1 r} h1 h2 => by
    rcases r with f | ⟨p2, k2, o2, v2⟩
    · exact rfl
    · exact ⟨Int.le_trans h1.1 h2.1, fun j hj => ⟨(h2.2 j (by omega)).1.trans (h1.2 j hj).1, (h2.2 j (by omega)).2.trans (h1.2 j hj).2⟩⟩
  have em : ∀ {k k1 : Int} {o v o1 v1 : tC} (a b : Int), 0 ≤ k → (k ≤ k1 ∧ ∀ j : Nat, (j : Int) < k → o1 j = o j ∧ v1 j = v j) → (k ≤ k1 + 1 ∧ ∀ j : Nat, (j : Int) < k → updI o1 k1.toNat a j = o j ∧ updI v1 k1.toNat b j = v j) := fun {k k1 o v o1 v1} a b hk h => ⟨by omega, fun j hj => by
    rw [up_o (by omega) j (by omega), up_o (by omega) j (by omega)]
    exact h.2 j hj⟩
  have rf : ∀ {k : Int} {o v : tC}, k ≤ k ∧ ∀ j : Nat, (j : Int) < k → o j = o j ∧ v j = v j := fun {k o v} => ⟨Int.le_refl _, fun j _ => ⟨rfl, rfl⟩⟩
  have jm : ∀ {p k : Int} {o v : tC} {a p1 k1 : Int} {o1 v1 : tC} {r : lR}, lP n p k → k < k1 → lPq (k + 1) (updI o k.toNat a) (updI v k.toNat 0) (.inr (p1, k1, o1, v1)) → lPq k1 o1 (updI v1 k.toNat k1) r → lPq k o v r := fun {p k o v a p1 k1 o1 v1 r} hL hk h1 h2 => by
    have h0 := hL.2.2.1
    refine tr (k1 := k1) (o1 := o1) (v1 := updI v1 k.toNat k1) ⟨by omega, fun j hj => ?_⟩ h2
    have h3 := h1.2 j (by omega)
    rw [up_o h0 j hj, up_o h0 j hj] at h3
    rw [up_o h0 j hj]
    exact h3
  refine ⟨?_, ?_, ?_, ?_, ?_, ?_, ?_, ?_, ?_, ?_, ?_, ?_, ?_, ?_, ?_, ?_, ?_, ?_, ?_, ?_, ?_, ?_, ?_, ?_, ?_, ?_, ?_, ?_, ?_, ?_, ?_, ?_, ?_, ?_, ?_, ?_, ?_, ?_, ?_, ?_⟩
  · intros; exact rfl
  · intros; exact rfl
  · intros; exact rfl
  · intro d p k o v p1 k1 o1 v1 h0 h1 h2 h3 h4 h5; exact h3
  · intro d p k o v x q h0 h1; exact em 0 x h0.2.2.1 rf
  · intros; exact rfl
  · intro d p k o v h0 h1; exact em 1 _ h0.2.2.1 rf
  · intros; exact rfl
  · intro d p k o v h0 h1; exact rf
  · intros; exact rfl
  · intro d p k o v p1 k1 o1 v1 r h0 h1 h2 h3 h4; exact tr (em _ 0 h0.2.2.1 h2) h4
  · intro d p k o v h0 h1; exact rf
  · intros; exact rfl
  · intro d p k o v p1 k1 o1 v1 r h0 h1 h2 h3 h4; exact tr (em _ 0 h0.2.2.1 h2) h4
  · intros; exact rfl
  · intro d p k o v p1 k1 o1 v1 r h0 h1 h2 h3; exact tr h1 h3
  · intros; exact rfl
  · intro d p k o v p1 k1 o1 v1 r h0 h1 h2 h3; exact tr h1 h3
  · intros; exact rfl
  · intro d p k o v p1 k1 o1 v1 r h0 h1 h2 h3; exact tr h1 h3
  · intros; exact rfl
  · intro d p k o v p1 k1 o1 v1 r h0 h1 h2 h3; exact tr h1 h3
  · intros; exact rfl
  · intros; exact rfl
  · intros; exact rfl
  · intro d p k o v p1 k1 o1 v1 p2 k2 o2 v2 h0 h1 h2 h3 h4 h5; exact em _ 0 h0.2.2.1 ⟨Int.le_trans h1.1 h4.1, fun j hj => ⟨(h4.2 j (by have := h1.1; omega)).1.trans (h1.2 j hj).1, (h4.2 j (by have := h1.1; omega)).2.trans (h1.2 j hj).2⟩⟩
  · intros; exact rfl
  · intros; exact rfl
  · intro d p k o v p1 k1 o1 v1 h0 h1 h2 h3 h4; exact em 10 0 h0.2.2.1 h3
  · intros; exact rfl
  · intros; exact rfl
  · intros; exact rfl
  · intro d p k o v p1 k1 o1 v1 h0 h1 h2 h3 h4 h5; exact h3
  · intro d p k o v r h0 h1 h2 h3; exact h3
  · intro d p k o v h0 h1; exact rf
  · intros; exact rfl
  · intro d p k o v p1 k1 o1 v1 r h0 h1 h2 h3 h4 h5; exact jm h0 h4 h2 h5
  · intro d p k o v h0 h1; exact rf
  · intros; exact rfl
  · intro d p k o v p1 k1 o1 v1 r h0 h1 h2 h3 h4 h5; exact jm h0 h4 h2 h5
/-! what the reference does from a state, by its place -/
section JX
variable (g0 : pH) (d : Nat) (Q : Option pv × pH → Prop) (β : Nat)
def jFF (p k : Int) (o v : tC) (δ : Int) (π : List (Int × Int)) : Prop := ∀ g, jSt g0 g p k o v δ π → ∀ QF, jQF d β Q QF → jF (d - 1) QF g
def jSH (p k : Int) (o v : tC) (δ : Int) (π : List (Int × Int)) : Prop := ∀ g, jSt g0 g p k o v δ π → jL d β Q g
def jMT (p k : Int) (o v : tC) (δ : Int) (π : List (Int × Int)) : Prop := jSH g0 d Q β p k o v δ π ∧ ∀ t, 4 ≤ t ∧ t ≤ 6 → 1 ≤ k → o (k - 1).toNat = t → v (k - 1).toNat = 0 → jSH g0 d Q β p (k - 1) o v δ ((t, 0) :: π)
def jMU (p k : Int) (o v : tC) (δ : Int) (π : List (Int × Int)) : Prop := jMT g0 d Q β p k o v δ π ∧ ∀ s, s = 2 ∨ s = 3 → 1 ≤ k → o (k - 1).toNat = s → v (k - 1).toNat = 0 → jMT g0 d Q β p (k - 1) o v δ ((s, 0) :: π)
def jPP (p k : Int) (o v : tC) (δ : Int) (π : List (Int × Int)) : Prop := ∀ g, jSt g0 g p k o v δ π → jA d Q g
def jEE (p k : Int) (o v : tC) (δ : Int) (π : List (Int × Int)) : Prop := jE g0 (jR d Q) p k o v δ π
def jCC (p k : Int) (o v : tC) (δ : Int) (π : List (Int × Int)) : Prop := ∀ g, jSt g0 g p k o v δ π → ∀ QD, (∀ g1, jR d Q g1 → QD (some (oI 1), g1)) → (∀ g1, Q (some (oI 0), g1) → QD (some (oI 0), g1)) → jCm (d - 1) QD g
def jMP (p k : Int) (o v : tC) (δ : Int) (π : List (Int × Int)) : Prop := jEE g0 d Q p k o v δ π ∧ ∀ j, 0 ≤ j ∧ j < k → o j.toNat = 11 → v j.toNat = k → jEE g0 d Q p k o (updI v j.toNat 0) δ ((11, j) :: π)
def jMC (p k : Int) (o v : tC) (δ : Int) (π : List (Int × Int)) : Prop := jMP g0 d Q p k o v δ π ∧ ∀ i, 0 ≤ i ∧ i < k → o i.toNat = 12 → v i.toNat = k → jMP g0 d Q p k o (updI v i.toNat 0) δ ((12, i) :: π)
end JX
section JY
variable {g0 : pH} {B : tC} {n : Int} {d : Nat} {Q : Option pv × pH → Prop} {β : Nat} {p k δ : Int} {o v : tC} {π : List (Int × Int)}
theorem mt_re (hB : jB g0 B n) (hLP : lP n p k) (hδ : 0 ≤ δ ∧ δ ≤ 7) (hs : tSp 0 π) (h : ∀ g, jRe g0 0 p k o v δ π g → jL d β Q g) : jMT g0 d Q β p k o v δ π :=
  ⟨fun g hg => h g (re_0 hB hLP hδ (Or.inl rfl) hs hg), fun _ ht h1 h2 h3 g hg => h g (re_1 hB hLP hδ (Or.inl rfl) (Or.inl ht) hs h1 h2 h3 hg)⟩
theorem mu_re (hB : jB g0 B n) (hLP : lP n p k) (hδ : 0 ≤ δ ∧ δ ≤ 7) (hs : tSp 1 π) (h : ∀ g, jRe g0 1 p k o v δ π g → jL d β Q g) : jMU g0 d Q β p k o v δ π :=
  ⟨⟨fun g hg => h g (re_0 hB hLP hδ (Or.inr rfl) hs hg), fun _ ht h1 h2 h3 g hg => h g (re_1 hB hLP hδ (Or.inr rfl) (Or.inl ht) hs h1 h2 h3 hg)⟩, fun s hs2 h1 h2 h3 => ⟨fun g hg => h g (re_1 hB hLP hδ (Or.inr rfl) (Or.inr ⟨rfl, hs2⟩) hs h1 h2 h3 hg), fun t ht h4 h5 h6 g hg => by
    rw [show k - 1 - 1 = k - 2 by omega] at h5 h6 hg
    exact h g (re_2 hB hLP hδ ht hs2 hs (by omega) h2 h3 h5 h6 hg)⟩⟩
theorem mp_le (hB : jB g0 B n) (hLP : lP n p k) (hδ : 0 ≤ δ ∧ δ ≤ 7) (hs : tLp 0 π) (h : ∀ g, jLe g0 0 p k o v δ π g → jR d Q g) : jMP g0 d Q p k o v δ π := by
  refine ⟨fun g hg d1 hd1 Q1 hQ1 => ?_, fun j hj h1 h2 g hg d1 hd1 Q1 hQ1 => ?_⟩
  · have h9 := hQ1 g (h g (le_0 hB hLP hδ (Or.inl rfl) hs hg))
    rcases π with _ | ⟨q, π⟩
    · exact en_0 hd1 hB hLP hδ hg h9
    · exact en_q hd1 hB hLP hδ (by unfold tLp at hs; omega) hg h9
  · exact en_q hd1 hB hLP hδ (by show (11 : Int) ≠ 10; decide) hg (hQ1 g (h g (le_1 hB hLP hδ (Or.inl rfl) (Or.inl rfl) hj hs h2 hg)))
theorem mc_le (hB : jB g0 B n) (hLP : lP n p k) (hδ : 0 ≤ δ ∧ δ ≤ 7) (hs : tLp 1 π) (h : ∀ g, jLe g0 1 p k o v δ π g → jR d Q g) : jMC g0 d Q p k o v δ π := by
  refine ⟨⟨fun g hg d1 hd1 Q1 hQ1 => ?_, fun j hj h1 h2 g hg d1 hd1 Q1 hQ1 => ?_⟩, fun i hi h1 h2 => ⟨fun g hg d1 hd1 Q1 hQ1 => ?_, fun j hj h3 h4 g hg d1 hd1 Q1 hQ1 => ?_⟩⟩
  · have h9 := hQ1 g (h g (le_0 hB hLP hδ (Or.inr rfl) hs hg))
    rcases π with _ | ⟨q, π⟩
    · exact en_0 hd1 hB hLP hδ hg h9
    · exact en_q hd1 hB hLP hδ (by unfold tLp at hs; omega) hg h9
  · exact en_q hd1 hB hLP hδ (by show (11 : Int) ≠ 10; decide) hg (hQ1 g (h g (le_1 hB hLP hδ (Or.inr rfl) (Or.inl rfl) hj hs h2 hg)))
  · exact en_q hd1 hB hLP hδ (by show (12 : Int) ≠ 10; decide) hg (hQ1 g (h g (le_1 hB hLP hδ (Or.inr rfl) (Or.inr ⟨rfl, rfl⟩) hi hs h2 hg)))
  · have hne : j ≠ i := fun z => by
      rw [z, h1] at h3
      omega
    have h5 : v j.toNat = k := by
      unfold updI at h4
      rw [if_neg (by omega)] at h4
      exact h4
    exact en_q hd1 hB hLP hδ (by show (11 : Int) ≠ 10; decide) hg (hQ1 g (h g (le_2 hB hLP hδ hj hi hs h5 h2 hne hg)))
end JY
def jI (H : Int → Int) (g0 : pH) (K δ : Nat) (p k : Int) (o v : tC) (r : lR) : Prop := lPr 0 δ p k o v r ∧ (δ ≤ 6 → match K with
  | 0 => ∀ (d : Nat) (Q : Option pv × pH → Prop) (β : Nat) (π : List (Int × Int)), 6 ≤ d → (β : Int) ≤ 1000 → β ≤ π.length → match r with
    | .inl f => jOK g0 Q f → jFF g0 d Q β p k o v δ π
    | .inr (p1, k1, o1, v1) => jSH g0 d Q β p1 k1 o1 v1 δ π → jFF g0 d Q β p k o v δ π
  | 1 => ∀ (d : Nat) (Q : Option pv × pH → Prop) (β : Nat) (π : List (Int × Int)), 6 ≤ d → (β : Int) ≤ 1000 → β ≤ π.length → tSp 0 π → match r with
    | .inl f => jOK g0 Q f → jMT g0 d Q β p k o v δ π
    | .inr (p1, k1, o1, v1) => lT3 (H p1) = -1 ∧ (jMT g0 d Q β p1 k1 o1 v1 δ π → jMT g0 d Q β p k o v δ π)
  | 2 => ∀ (d : Nat) (Q : Option pv × pH → Prop) (β : Nat) (π : List (Int × Int)), 6 ≤ d → (β : Int) ≤ 1000 → β ≤ π.length → tSp 0 π → match r with
    | .inl f => jOK g0 Q f → jFF g0 d Q β p k o v δ π
    | .inr (p1, k1, o1, v1) => lT3 (H p1) = -1 ∧ (jMT g0 d Q β p1 k1 o1 v1 δ π → jFF g0 d Q β p k o v δ π)
  | 3 => ∀ (d : Nat) (Q : Option pv × pH → Prop) (β : Nat) (π : List (Int × Int)), 6 ≤ d → (β : Int) ≤ 1000 → β ≤ π.length → tSp 1 π → match r with
    | .inl f => jOK g0 Q f → jMU g0 d Q β p k o v δ π
    | .inr (p1, k1, o1, v1) => lS2 (H p1) = -1 ∧ (lT3 (H p) = -1 → lT3 (H p1) = -1) ∧ (jMU g0 d Q β p1 k1 o1 v1 δ π → jMU g0 d Q β p k o v δ π)
  | 4 => ∀ (d : Nat) (Q : Option pv × pH → Prop) (β : Nat) (π : List (Int × Int)), 6 ≤ d → (β : Int) ≤ 1000 → β ≤ π.length → tSp 1 π → match r with
    | .inl f => jOK g0 Q f → jFF g0 d Q β p k o v δ π
    | .inr (p1, k1, o1, v1) => (lS2 (H p1) = -1 ∧ lT3 (H p1) = -1) ∧ (jMU g0 d Q β p1 k1 o1 v1 δ π → jFF g0 d Q β p k o v δ π)
  | 5 => ∀ (d : Nat) (Q : Option pv × pH → Prop) (π : List (Int × Int)), 12 ≤ d → tSp 1 π → match r with
    | .inl f => jOK g0 Q f → jCC g0 d Q p k o v δ π
    | .inr (p1, k1, o1, v1) => jEE g0 d Q p1 k1 o1 v1 δ π → jCC g0 d Q p k o v δ π
  | 6 => ∀ (d : Nat) (Q : Option pv × pH → Prop) (π : List (Int × Int)), 12 ≤ d → tSp 1 π → 0 < π.length → match r with
    | .inl f => jOK g0 Q f → jPP g0 d Q p k o v δ π
    | .inr (p1, k1, o1, v1) => jEE g0 d Q p1 k1 o1 v1 δ π → jPP g0 d Q p k o v δ π
  | 7 => ∀ (d : Nat) (Q : Option pv × pH → Prop) (π : List (Int × Int)), 12 ≤ d → tLp 0 π → 0 < π.length → match r with
    | .inl f => jOK g0 Q f → jMP g0 d Q p k o v δ π
    | .inr (p1, k1, o1, v1) => H p1 ≠ 38 ∧ (jMP g0 d Q p1 k1 o1 v1 δ π → jMP g0 d Q p k o v δ π)
  | 8 => ∀ (d : Nat) (Q : Option pv × pH → Prop) (π : List (Int × Int)), 12 ≤ d → tLp 0 π → 0 < π.length → match r with
    | .inl f => jOK g0 Q f → jPP g0 d Q p k o v δ π
    | .inr (p1, k1, o1, v1) => H p1 ≠ 38 ∧ (jMP g0 d Q p1 k1 o1 v1 δ π → jPP g0 d Q p k o v δ π)
  | 9 => ∀ (d : Nat) (Q : Option pv × pH → Prop) (π : List (Int × Int)), 12 ≤ d → tLp 1 π → 0 < π.length → match r with
    | .inl f => jOK g0 Q f → jMC g0 d Q p k o v δ π
    | .inr (p1, k1, o1, v1) => (H p1 ≠ 124 ∧ (H p ≠ 38 → H p1 ≠ 38)) ∧ (jMC g0 d Q p1 k1 o1 v1 δ π → jMC g0 d Q p k o v δ π)
  | _ => ∀ (d : Nat) (Q : Option pv × pH → Prop) (π : List (Int × Int)), 12 ≤ d → tLp 1 π → 0 < π.length → match r with
    | .inl f => jOK g0 Q f → jPP g0 d Q p k o v δ π
    | .inr (p1, k1, o1, v1) => (H p1 ≠ 124 ∧ H p1 ≠ 38) ∧ (jMC g0 d Q p1 k1 o1 v1 δ π → jPP g0 d Q p k o v δ π))
theorem tL01 {π : List (Int × Int)} (h : tLp 1 π) : tLp 0 π := by
  rcases π with _ | ⟨q, π⟩
  · exact trivial
  · rcases h with h | ⟨h, -⟩
    · exact Or.inl h
    · cases h
theorem tLS {π : List (Int × Int)} (h : tLp 0 π) : tSp 1 π := by
  rcases π with _ | ⟨q, π⟩
  · exact trivial
  · rcases h with h | ⟨-, h⟩
    · exact Or.inl (by omega)
    · exact Or.inl (by omega)
theorem tS10 {π : List (Int × Int)} (h : tSp 1 π) : tSp 0 π := by
  rcases π with _ | ⟨q, π⟩
  · exact trivial
  · rcases h with h | ⟨h, -⟩
    · exact Or.inl h
    · cases h
theorem su_f {g0 : pH} {d : Nat} {p k δ : Int} {o v : tC} {π : List (Int × Int)} {Q : Option pv × pH → Prop} (hd : 6 ≤ d) (h : jFF g0 d Q π.length p k o v δ π) {g : pH} (hg : jSt g0 g p k o v δ π) : jSu d Q g := su_in (by omega) hg (fun QF hQ => h g hg QF hQ)
