/-! the tray's text: what reading it comes to (least relation closed under its rules) -/
def tH (B : Nat → Int) (n p : Int) : Int := if p < n then B p.toNat else -1
theorem tH_b {B : Nat → Int} {n : Int} (hB : ∀ j, j < 260 → 0 ≤ B j ∧ B j ≤ 255) (hn : n ≤ 260) {p : Int} (hp : 0 ≤ p) : -1 ≤ tH B n p ∧ tH B n p ≤ 255 := by
  unfold tH
  by_cases q : p < n
  · rw [if_pos q]
    have := hB p.toNat (by omega)
    omega
  · rw [if_neg q]
    omega
theorem tH_n {B : Nat → Int} {n p : Int} : -1 < tH B n p → p < n := by
  unfold tH
  intro h
  by_cases q : p < n
  · exact q
  · rw [if_neg q] at h
    omega
theorem tH_e {B : Nat → Int} {n p : Int} (h : n ≤ p) : tH B n p = -1 := if_neg (by omega)
theorem tH_i {B : Nat → Int} {n p : Int} (h : p < n) : tH B n p = B p.toNat := if_pos h
abbrev tC : Type := Nat → Int
abbrev tR : Type := Int ⊕ (Int × (Int × tC))
def tDg (h : Int) : Prop := 48 ≤ h ∧ h ≤ 57
def tNu (H : Int → Int) (p v q : Int) : Prop := tDg (H p) ∧ ((¬ tDg (H (p + 1)) ∧ v = H p - 48 ∧ q = p + 1) ∨ (tDg (H (p + 1)) ∧ v = 10 * (H p - 48) + (H (p + 1) - 48) ∧ v < 32 ∧ q = p + 2))
def tNf (H : Int → Int) (p f : Int) : Prop := (¬ tDg (H p) ∧ f = -1000 - p) ∨ (tDg (H p) ∧ tDg (H (p + 1)) ∧ 32 ≤ 10 * (H p - 48) + (H (p + 1) - 48) ∧ f = -3000 - p)
theorem tNu_b {H : Int → Int} {p v q : Int} (h : tNu H p v q) : 0 ≤ v ∧ v ≤ 31 ∧ p < q ∧ q ≤ p + 2 := by
  unfold tNu tDg at h
  omega
theorem tNu_n {B : Nat → Int} {n p v q : Int} (h : tNu (tH B n) p v q) : q ≤ n := by
  have h1 := tH_n (B := B) (n := n) (p := p)
  have h2 := tH_n (B := B) (n := n) (p := p + 1)
  unfold tNu tDg at h
  omega
theorem tNu_d {H : Int → Int} {p v q v' q' : Int} (h : tNu H p v q) (h' : tNu H p v' q') : v = v' ∧ q = q' := by
  unfold tNu tDg at h h'
  omega
theorem tNf_d {H : Int → Int} {p f f' : Int} (h : tNf H p f) (h' : tNf H p f') : f = f' := by
  unfold tNf tDg at h h'
  omega
theorem tNuf {H : Int → Int} {p f v q : Int} (h : tNf H p f) (h' : tNu H p v q) : False := by
  unfold tNf tNu tDg at *
  omega
def tW (a z : Int) : Int := if a ≤ z then z - a + 1 else a - z + 1
/-- a row from a to z, at p with m ahead of it -/
def tFi (p m : Int) (c : tC) (a z q : Int) (r : tR) : Prop := (60 < m + tW a z ∧ r = .inl (-6000 - p)) ∨ (m + tW a z ≤ 60 ∧ ∃ c1 : tC, r = .inr (q, m + tW a z, c1) ∧ (∀ j : Nat, (j : Int) < m → c1 j = c j) ∧ (∀ k : Nat, (k : Int) < tW a z → c1 (m + k).toNat = if a ≤ z then a + k else a - k))
def tRo (H : Int → Int) (p m : Int) (c : tC) (r : tR) : Prop := (∃ f, tNf H p f ∧ r = .inl f) ∨ ∃ a q, tNu H p a q ∧ ((H q ≠ 45 ∧ tFi p m c a a q r) ∨ (H q = 45 ∧ ((∃ f, tNf H (q + 1) f ∧ r = .inl f) ∨ ∃ z q2, tNu H (q + 1) z q2 ∧ tFi p m c a z q2 r)))
/-- behind the items of a group that began at p with m ahead of it: items c1 up to m1, at p1 -/
def tEn (H : Int → Int) (p m p1 m1 : Int) (c1 : tC) (r : tR) : Prop := (H p1 ≠ 41 ∧ r = .inl (-1000 - p1)) ∨ (H p1 = 41 ∧ ¬ (50 ≤ H (p1 + 1) ∧ H (p1 + 1) ≤ 57) ∧ r = .inl (-1000 - (p1 + 1))) ∨ (H p1 = 41 ∧ (50 ≤ H (p1 + 1) ∧ H (p1 + 1) ≤ 57) ∧ ((60 < m + (m1 - m) * (H (p1 + 1) - 48) ∧ r = .inl (-6000 - p)) ∨ (m + (m1 - m) * (H (p1 + 1) - 48) ≤ 60 ∧ ∃ c2 : tC, r = .inr (p1 + 2, m + (m1 - m) * (H (p1 + 1) - 48), c2) ∧ (∀ j : Nat, (j : Int) < m1 → c2 j = c1 j) ∧ (∀ j : Nat, m1 ≤ (j : Int) → (j : Int) < m + (m1 - m) * (H (p1 + 1) - 48) → c2 j = c2 (j - (m1 - m)).toNat))))
def tQ (n p m p1 m1 : Int) : Prop := 0 ≤ p ∧ p < p1 ∧ p1 ≤ n ∧ 0 ≤ m ∧ m < m1 ∧ m1 ≤ 60
/-- closed under the rules: I of ITEMS, T of one -/
def tCl (H : Int → Int) (n : Int) (I T : Nat → Int → Int → tC → tR → Prop) : Prop :=
  (∀ (d : Nat) (p m : Int) (c : tC) (r : tR), 0 ≤ p ∧ p ≤ n ∧ 0 ≤ m ∧ m ≤ 60 → H p ≠ 40 → tRo H p m c r → T d p m c r) ∧
  (∀ (d : Nat) (p m : Int) (c : tC), 0 ≤ p ∧ p ≤ n ∧ 0 ≤ m ∧ m ≤ 60 → H p = 40 → 4 ≤ d → T d p m c (.inl (-5000 - p))) ∧
  (∀ (d : Nat) (p m : Int) (c : tC) (f : Int), 0 ≤ p ∧ p < n ∧ 0 ≤ m ∧ m ≤ 60 → H p = 40 → d < 4 → I (d + 1) (p + 1) m c (.inl f) → T d p m c (.inl f)) ∧
  (∀ (d : Nat) (p m : Int) (c : tC) (p1 m1 : Int) (c1 : tC) (r : tR), tQ n (p + 1) m p1 m1 ∧ 0 ≤ p → H p = 40 → d < 4 → I (d + 1) (p + 1) m c (.inr (p1, m1, c1)) → tEn H p m p1 m1 c1 r → T d p m c r) ∧
  (∀ (d : Nat) (p m : Int) (c : tC) (f : Int), T d p m c (.inl f) → I d p m c (.inl f)) ∧
  (∀ (d : Nat) (p m : Int) (c : tC) (p1 m1 : Int) (c1 : tC), tQ n p m p1 m1 → T d p m c (.inr (p1, m1, c1)) → H p1 ≠ 44 → I d p m c (.inr (p1, m1, c1))) ∧
  (∀ (d : Nat) (p m : Int) (c : tC) (p1 m1 : Int) (c1 : tC) (r : tR), tQ n p m p1 m1 → T d p m c (.inr (p1, m1, c1)) → H p1 = 44 → I d (p1 + 1) m1 c1 r → I d p m c r)
def tIs (H : Int → Int) (n : Int) (d : Nat) (p m : Int) (c : tC) (r : tR) : Prop := ∀ I T, tCl H n I T → I d p m c r
def tIt (H : Int → Int) (n : Int) (d : Nat) (p m : Int) (c : tC) (r : tR) : Prop := ∀ I T, tCl H n I T → T d p m c r
theorem tCl_x (H : Int → Int) (n : Int) : tCl H n (tIs H n) (tIt H n) := by
  refine ⟨?_, ?_, ?_, ?_, ?_, ?_, ?_⟩
  · intro d p m c r h1 h2 h3 I T hC
    exact hC.1 d p m c r h1 h2 h3
  · intro d p m c h1 h2 h3 I T hC
    exact hC.2.1 d p m c h1 h2 h3
  · intro d p m c f h1 h2 h3 h4 I T hC
    exact hC.2.2.1 d p m c f h1 h2 h3 (h4 I T hC)
  · intro d p m c p1 m1 c1 r h1 h2 h3 h4 h5 I T hC
    exact hC.2.2.2.1 d p m c p1 m1 c1 r h1 h2 h3 (h4 I T hC) h5
  · intro d p m c f h1 I T hC
    exact hC.2.2.2.2.1 d p m c f (h1 I T hC)
  · intro d p m c p1 m1 c1 h1 h2 h3 I T hC
    exact hC.2.2.2.2.2.1 d p m c p1 m1 c1 h1 (h2 I T hC) h3
  · intro d p m c p1 m1 c1 r h1 h2 h3 h4 I T hC
    exact hC.2.2.2.2.2.2 d p m c p1 m1 c1 r h1 (h2 I T hC) h3 (h4 I T hC)
/-- alike, as far as it matters -/
def tSm (r r' : tR) : Prop := match r, r' with
  | .inl f, .inl f' => f = f'
  | .inr (p, m, c), .inr (p', m', c') => p = p' ∧ m = m' ∧ ∀ j : Nat, (j : Int) < m → c j = c' j
  | _, _ => False
theorem tFi_d {p m : Int} {c c' : tC} (hc : ∀ j : Nat, (j : Int) < m → c j = c' j) {a z q : Int} {r r' : tR} (h : tFi p m c a z q r) (h' : tFi p m c' a z q r') (hm : 0 ≤ m) : tSm r r' := by
  rcases h with ⟨h1, rfl⟩ | ⟨h1, c1, rfl, h2, h3⟩ <;> rcases h' with ⟨g1, rfl⟩ | ⟨g1, c2, rfl, g2, g3⟩
  · exact rfl
  · omega
  · omega
  · refine ⟨rfl, rfl, fun j hj => ?_⟩
    by_cases q : (j : Int) < m
    · rw [h2 j q, g2 j q, hc j q]
    · have e1 := h3 (j - m).toNat (by omega)
      have e2 := g3 (j - m).toNat (by omega)
      rw [show (m + ((j - m).toNat : Int)).toNat = j by omega] at e1 e2
      rw [e1, e2]
theorem tRo_d {H : Int → Int} {p m : Int} {c c' : tC} (hc : ∀ j : Nat, (j : Int) < m → c j = c' j) {r r' : tR} (h : tRo H p m c r) (h' : tRo H p m c' r') (hm : 0 ≤ m) : tSm r r' := by
  rcases h with ⟨f, h1, rfl⟩ | ⟨a, q, h1, h2⟩ <;> rcases h' with ⟨f', g1, rfl⟩ | ⟨a', q', g1, g2⟩
  · exact tNf_d h1 g1
  · exact (tNuf h1 g1).elim
  · exact (tNuf g1 h1).elim
  · obtain ⟨rfl, rfl⟩ := tNu_d h1 g1
    rcases h2 with ⟨h2, h3⟩ | ⟨h2, h3⟩ <;> rcases g2 with ⟨g2, g3⟩ | ⟨g2, g3⟩
    · exact tFi_d hc h3 g3 hm
    · exact absurd g2 h2
    · exact absurd h2 g2
    · rcases h3 with ⟨f, h3, rfl⟩ | ⟨z, q2, h3, h4⟩ <;> rcases g3 with ⟨f', g3, rfl⟩ | ⟨z', q2', g3, g4⟩
      · exact tNf_d h3 g3
      · exact (tNuf h3 g3).elim
      · exact (tNuf g3 h3).elim
      · obtain ⟨rfl, rfl⟩ := tNu_d h3 g3
        exact tFi_d hc h4 g4 hm
theorem tEn_d {H : Int → Int} {p m p1 m1 : Int} {c c' : tC} (hc : ∀ j : Nat, (j : Int) < m1 → c j = c' j) {r r' : tR} (h : tEn H p m p1 m1 c r) (h' : tEn H p m p1 m1 c' r') (hm : 0 ≤ m ∧ m < m1) : tSm r r' := by
  rcases h with ⟨h1, rfl⟩ | ⟨h1, h2, rfl⟩ | ⟨h1, h2, ⟨h3, rfl⟩ | ⟨h3, c1, rfl, h4, h5⟩⟩ <;> rcases h' with ⟨g1, rfl⟩ | ⟨g1, g2, rfl⟩ | ⟨g1, g2, ⟨g3, rfl⟩ | ⟨g3, c2, rfl, g4, g5⟩⟩ <;> first | exact rfl | exact absurd h1 g1 | exact absurd g1 h1 | exact absurd h2 g2 | exact absurd g2 h2 | exact absurd h3 (by omega) | skip
  refine ⟨rfl, rfl, fun j => ?_⟩
  induction j using Nat.strongRecOn with
  | ind j ih =>
    intro hj
    by_cases q : (j : Int) < m1
    · rw [h4 j q, g4 j q, hc j q]
    · rw [h5 j (by omega) hj, g5 j (by omega) hj]
      exact ih _ (by omega) (by omega)
