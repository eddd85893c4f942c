/-! by hand: the law's reader: words for codes and for what waits -/
def isN (e : Int) : Prop := (2 ≤ e / 1048576 ∧ e / 1048576 ≤ 6) ∨ e / 1048576 = 10
def nW (e : Int) : Int := if (2 ≤ e / 1048576 ∧ e / 1048576 ≤ 6) ∨ e / 1048576 = 10 then 1 else 0
theorem nW_1 {e : Int} (h : (2 ≤ e / 1048576 ∧ e / 1048576 ≤ 6) ∨ e / 1048576 = 10) : nW e = 1 := if_pos h
theorem nW_0 {e : Int} (h : ¬ ((2 ≤ e / 1048576 ∧ e / 1048576 ≤ 6) ∨ e / 1048576 = 10)) : nW e = 0 := if_neg h
theorem nW_b (e : Int) : 0 ≤ nW e ∧ nW e ≤ 1 := by
  unfold nW
  split <;> omega
def kW (v : Nat → Int) : Nat → Int
  | 0 => 0
  | n + 1 => kW v n + nW (v n)
theorem kW_e {v u : Nat → Int} : ∀ {n : Nat}, (∀ k, k < n → v k = u k) → kW v n = kW u n
  | 0, _ => rfl
  | n + 1, h => by
    show kW v n + nW (v n) = kW u n + nW (u n)
    rw [kW_e (n := n) (fun k hk => h k (by omega)), h n (by omega)]
theorem kW_0 (v : Nat → Int) : ∀ n : Nat, 0 ≤ kW v n
  | 0 => Int.le_refl 0
  | n + 1 => by
    have := kW_0 v n
    have := nW_b (v n)
    show 0 ≤ kW v n + nW (v n)
    omega
theorem kW_le (v : Nat → Int) {b : Nat} : ∀ {n : Nat}, b ≤ n → kW v b ≤ kW v n
  | 0, h => by
    obtain rfl : b = 0 := by omega
    exact Int.le_refl _
  | n + 1, h => by
    by_cases e : b = n + 1
    · subst e; exact Int.le_refl _
    · have := kW_le v (b := b) (n := n) (by omega)
      have := nW_b (v n)
      show kW v b ≤ kW v n + nW (v n)
      omega
theorem kW_S {v : Nat → Int} {w : Int} (h : 0 ≤ w) : kW v (w + 1).toNat = kW v w.toNat + nW (v w.toNat) := by
  rw [show (w + 1).toNat = w.toNat + 1 by omega]
  rfl
theorem kW_P {v : Nat → Int} {w : Int} (h : 1 ≤ w) : kW v w.toNat = kW v (w - 1).toNat + nW (v (w - 1).toNat) := by
  rw [show w.toNat = (w - 1).toNat + 1 by omega]
  rfl
def ef (c : Int) : Int := if c / 1048576 ≤ 1 then 1 else if c / 1048576 = 10 then 0 else -1
def dS (f : Nat → Int) : Nat → Int
  | 0 => 0
  | n + 1 => dS f n + ef (f n)
theorem dS_e {f f2 : Nat → Int} : ∀ {n : Nat}, (∀ k, k < n → ef (f k) = ef (f2 k)) → dS f n = dS f2 n
  | 0, _ => rfl
  | n + 1, h => by
    show dS f n + ef (f n) = dS f2 n + ef (f2 n)
    rw [dS_e (n := n) (fun k hk => h k (by omega)), h n (by omega)]
theorem dS_S {f : Nat → Int} {c : Int} (h : 0 ≤ c) : dS f (c + 1).toNat = dS f c.toNat + ef (f c.toNat) := by
  rw [show (c + 1).toNat = c.toNat + 1 by omega]
  rfl
theorem ef_1 {c : Int} (h : c / 1048576 ≤ 1) : ef c = 1 := if_pos h
theorem ef_0 {c : Int} (h : c / 1048576 = 10) : ef c = 0 := by
  unfold ef
  rw [if_neg (by omega), if_pos h]
theorem ef_m {c : Int} (h : 2 ≤ c / 1048576) (h2 : c / 1048576 ≠ 10) : ef c = -1 := by
  unfold ef
  rw [if_neg (by omega), if_neg h2]
theorem ef_b (c : Int) : ef c ≤ 1 := by
  unfold ef
  split
  · omega
  · split <;> omega
theorem dS_b (f : Nat → Int) {a : Nat} : ∀ {n : Nat}, a ≤ n → dS f n - dS f a ≤ n - a
  | 0, h => by
    obtain rfl : a = 0 := by omega
    show dS f 0 - dS f 0 ≤ _
    omega
  | n + 1, h => by
    by_cases e : a = n + 1
    · subst e; omega
    · have := dS_b f (a := a) (n := n) (by omega)
      have := ef_b (f n)
      show dS f n + ef (f n) - dS f a ≤ _
      omega
/-- codes of a sum that begins at c0 -/
def wS (f : Nat → Int) (c0 k : Nat) : Prop := 0 ≤ f k ∧ f k / 1048576 ≤ 6 ∧ (f k / 1048576 = 1 → f k % 1048576 ≤ 10) ∧ 0 ≤ dS f k - dS f c0 ∧ (2 ≤ f k / 1048576 → 2 ≤ dS f k - dS f c0)
def sJ (c0 b : Nat) (p0 : Int) (f0 w0 : Nat → Int) (p c w : Int) (f v : Nat → Int) (δ : Int) : Prop :=
  ((c0 : Int) ≤ c ∧ (b : Int) ≤ w ∧ w ≤ p ∧ p0 ≤ p ∧ c + kW v w.toNat ≤ c0 + kW w0 b + (p - p0)) ∧ (∀ j, j < b → v j = w0 j) ∧ (∀ k, k < c0 → f k = f0 k) ∧ (∀ j : Nat, b ≤ j → (j : Int) < w → 0 ≤ v j ∧ ((2 ≤ v j / 1048576 ∧ v j / 1048576 ≤ 6) ∨ v j / 1048576 = 14)) ∧ (∀ k : Nat, c0 ≤ k → (k : Int) < c → wS f c0 k) ∧ dS f c.toNat = dS f c0 + (kW v w.toNat - kW w0 b) + δ
section SJ
variable {c0 b : Nat} {p0 : Int} {f0 w0 : Nat → Int} {p c w : Int} {f v : Nat → Int} {δ : Int}
theorem sJ_st {f v : Nat → Int} {p : Int} (hp : (b : Int) ≤ p) : sJ c0 b p f v p c0 b f v 0 := by
  refine ⟨⟨Int.le_refl _, Int.le_refl _, hp, Int.le_refl _, ?_⟩, fun _ _ => rfl, fun _ _ => rfl, fun j h1 h2 => absurd h2 (by omega), fun k h1 h2 => absurd h2 (by omega), ?_⟩
  · rw [Int.toNat_natCast]
    omega
  · rw [Int.toNat_natCast, Int.toNat_natCast]
    omega
/-- a code more -/
theorem wS_up {f2 : Nat → Int} (h0 : 0 ≤ c) (hu : ∀ k, k ≠ c.toNat → f2 k = f k) {k : Nat} (hk : (k : Int) ≤ c) : dS f2 k = dS f k := dS_e (fun j hj => by rw [hu j (by omega)])
theorem sJ_kb (h : sJ c0 b p0 f0 w0 p c w f v δ) : kW v b = kW w0 b := kW_e (fun k hk => h.2.1 k hk)
theorem sJ_kl (h : sJ c0 b p0 f0 w0 p c w f v δ) : kW w0 b ≤ kW v w.toNat := by
  rw [← sJ_kb h]
  exact kW_le v (by have := h.1.2.1; omega)
theorem sJ_p (h : sJ c0 b p0 f0 w0 p c w f v δ) {p' : Int} (hp : p ≤ p') : sJ c0 b p0 f0 w0 p' c w f v δ := ⟨⟨h.1.1, h.1.2.1, by have := h.1.2.2.1; omega, by have := h.1.2.2.2.1; omega, by have := h.1.2.2.2.2; omega⟩, h.2⟩
theorem sJ_num (h : sJ c0 b p0 f0 w0 p c w f v 0) {f2 : Nat → Int} {x p' : Int} (hp : p + 1 ≤ p') (hx : 0 ≤ x ∧ x / 1048576 ≤ 1 ∧ (x / 1048576 = 1 → x % 1048576 ≤ 10)) (e1 : f2 c.toNat = x) (e2 : ∀ k, k ≠ c.toNat → f2 k = f k) : sJ c0 b p0 f0 w0 p' (c + 1) w f2 v 1 := by
  have hkl := sJ_kl h
  obtain ⟨⟨a1, a2, a3, a4, a5⟩, h1, h2, h3, h4, h5⟩ := h
  have hd : ∀ k : Nat, (k : Int) ≤ c → dS f2 k = dS f k := fun k hk => wS_up (by omega) e2 hk
  refine ⟨⟨by omega, by omega, by omega, by omega, by omega⟩, h1, fun k hk => by rw [e2 k (by omega)]; exact h2 k hk, h3, fun k k1 k2 => ?_, ?_⟩
  · by_cases q : k = c.toNat
    · subst q
      unfold wS
      rw [e1, hd _ (by omega), hd c0 (by omega), h5]
      exact ⟨hx.1, by omega, hx.2.2, by omega, fun _ => by omega⟩
    · have := h4 k k1 (by omega)
      unfold wS at this ⊢
      rw [e2 k q, hd k (by omega), hd c0 (by omega)]
      exact this
  · rw [dS_S (by omega), e1, ef_1 hx.2.1, hd _ (by omega), hd c0 (by omega), h5]
    omega
theorem sJ_push (h : sJ c0 b p0 f0 w0 p c w f v δ) {v2 : Nat → Int} {x : Int} (hx : 0 ≤ x ∧ ((2 ≤ x / 1048576 ∧ x / 1048576 ≤ 6 ∧ δ = 1) ∨ (x / 1048576 = 14 ∧ δ = 0))) (e1 : v2 w.toNat = x) (e2 : ∀ k, k ≠ w.toNat → v2 k = v k) : sJ c0 b p0 f0 w0 (p + 1) c (w + 1) f v2 0 := by
  obtain ⟨⟨a1, a2, a3, a4, a5⟩, h1, h2, h3, h4, h5⟩ := h
  have hk : kW v2 w.toNat = kW v w.toNat := kW_e (fun k hk => e2 k (by omega))
  have hn : nW x = δ := by
    rcases hx.2 with q | q
    · rw [nW_1 (by omega), q.2.2]
    · rw [nW_0 (by omega), q.2]
  have hS : kW v2 (w + 1).toNat = kW v w.toNat + δ := by rw [kW_S (by omega), hk, e1, hn]
  refine ⟨⟨by omega, by omega, by omega, by omega, ?_⟩, fun j hj => by rw [e2 j (by omega)]; exact h1 j hj, h2, fun j j1 j2 => ?_, h4, ?_⟩
  · rw [hS]
    rcases hx.2 with q | q <;> omega
  · by_cases q : j = w.toNat
    · subst q
      rw [e1]
      exact ⟨hx.1, by omega⟩
    · rw [e2 j q]
      exact h3 j j1 (by omega)
  · rw [hS, h5]
    omega
theorem sJ_close (h : sJ c0 b p0 f0 w0 p c w f v 1) (hw : (b : Int) < w) {f2 : Nat → Int} {x : Int} (ho : 2 ≤ v (w - 1).toNat / 1048576 ∧ v (w - 1).toNat / 1048576 ≤ 6) (hx : 0 ≤ x ∧ 2 ≤ x / 1048576 ∧ x / 1048576 ≤ 6) (e1 : f2 c.toNat = x) (e2 : ∀ k, k ≠ c.toNat → f2 k = f k) : sJ c0 b p0 f0 w0 p (c + 1) (w - 1) f2 v 1 := by
  have hkb := sJ_kb h
  obtain ⟨⟨a1, a2, a3, a4, a5⟩, h1, h2, h3, h4, h5⟩ := h
  have hd : ∀ k : Nat, (k : Int) ≤ c → dS f2 k = dS f k := fun k hk => wS_up (by omega) e2 hk
  have hP := kW_P (v := v) (w := w) (by omega)
  rw [nW_1 (by omega)] at hP
  have hle := kW_le v (b := b) (n := (w - 1).toNat) (by omega)
  refine ⟨⟨by omega, by omega, by omega, by omega, by omega⟩, h1, fun k hk => by rw [e2 k (by omega)]; exact h2 k hk, fun j j1 j2 => h3 j j1 (by omega), fun k k1 k2 => ?_, ?_⟩
  · by_cases q : k = c.toNat
    · subst q
      unfold wS
      rw [e1, hd _ (by omega), hd c0 (by omega), h5]
      exact ⟨hx.1, hx.2.2, fun z => by omega, by omega, fun _ => by omega⟩
    · have := h4 k k1 (by omega)
      unfold wS at this ⊢
      rw [e2 k q, hd k (by omega), hd c0 (by omega)]
      exact this
  · rw [dS_S (by omega), e1, ef_m hx.2.1 (by omega), hd _ (by omega), hd c0 (by omega), h5]
    omega
theorem sJ_pop (h : sJ c0 b p0 f0 w0 p c w f v δ) (hw : (b : Int) < w) (ho : v (w - 1).toNat / 1048576 = 14) : sJ c0 b p0 f0 w0 p c (w - 1) f v δ := by
  obtain ⟨⟨a1, a2, a3, a4, a5⟩, h1, h2, h3, h4, h5⟩ := h
  have hP := kW_P (v := v) (w := w) (by omega)
  rw [nW_0 (by omega)] at hP
  exact ⟨⟨by omega, by omega, by omega, by omega, by omega⟩, h1, h2, fun j j1 j2 => h3 j j1 (by omega), h4, by rw [h5]; omega⟩
end SJ
/-- codes of a condition that begins at a -/
def wC (f v : Nat → Int) (a : Nat) (c w : Int) (k : Nat) : Prop := (0 ≤ f k ∧ f k / 1048576 ≤ 12 ∧ (f k / 1048576 = 1 → f k % 1048576 ≤ 10) ∧ 0 ≤ dS f k - dS f a ∧ (f k / 1048576 = 10 → 1 ≤ dS f k - dS f a) ∧ (2 ≤ f k / 1048576 ∧ f k / 1048576 ≤ 9 → 2 ≤ dS f k - dS f a)) ∧ (11 ≤ f k / 1048576 → dS f k - dS f a = 1 ∧ (((k : Int) < f k % 1048576 ∧ f k % 1048576 ≤ c ∧ dS f (f k % 1048576).toNat - dS f a = 1) ∨ ∃ j : Nat, (j : Int) < w ∧ 11 ≤ v j / 1048576 ∧ v j / 1048576 ≤ 12 ∧ v j % 1048576 = k))
def pC (f v : Nat → Int) (a : Nat) (c : Int) (j : Nat) : Prop := 0 ≤ v j ∧ ¬ (2 ≤ v j / 1048576 ∧ v j / 1048576 ≤ 6) ∧ (11 ≤ v j / 1048576 ∧ v j / 1048576 ≤ 12 → (a : Int) ≤ v j % 1048576 ∧ v j % 1048576 < c ∧ 11 ≤ f (v j % 1048576).toNat / 1048576 ∧ dS f (v j % 1048576).toNat - dS f a = 1)
def cJ (a : Nat) (f0 : Nat → Int) (z p c w : Int) (f v : Nat → Int) (δ : Int) : Prop :=
  ((a : Int) ≤ c ∧ 1 ≤ w ∧ w ≤ p ∧ p ≤ 240 ∧ c + kW v w.toNat + z ≤ p) ∧ (∀ k, k < a → f k = f0 k) ∧ (∀ j : Nat, (j : Int) < w → pC f v a c j) ∧ v 0 / 1048576 = 13 ∧ (∀ k : Nat, a ≤ k → (k : Int) < c → wC f v a c w k) ∧ dS f c.toNat - dS f a = δ
section CJ
variable {a : Nat} {f0 : Nat → Int} {z p c w : Int} {f v : Nat → Int} {δ : Int}
theorem cJ_p (h : cJ a f0 z p c w f v δ) {p' z' : Int} (hp : p ≤ p' ∧ p' ≤ 240) (hz : z' - z ≤ p' - p) : cJ a f0 z' p' c w f v δ := ⟨⟨h.1.1, h.1.2.1, by have := h.1.2.2.1; omega, by omega, by have := h.1.2.2.2.2; omega⟩, h.2⟩
theorem wC_v {v2 : Nat → Int} {w2 : Int} {k : Nat} (h : wC f v a c w k) (hj : ∀ j : Nat, (j : Int) < w → 11 ≤ v j / 1048576 → v j / 1048576 ≤ 12 → (j : Int) < w2 ∧ v2 j = v j) : wC f v2 a c w2 k := by
  refine ⟨h.1, fun q => ⟨(h.2 q).1, (h.2 q).2.imp id (fun ⟨j, j1, j2, j3, j4⟩ => ?_)⟩⟩
  have := hj j j1 j2 j3
  exact ⟨j, this.1, by rw [this.2]; exact j2, by rw [this.2]; exact j3, by rw [this.2]; exact j4⟩
/-- one more that waits: ( or ! -/
theorem cJ_open (h : cJ a f0 z p c w f v δ) (hp : p + 1 ≤ 240) {v2 : Nat → Int} {x : Int} (hx : 0 ≤ x ∧ (x / 1048576 = 10 ∨ x / 1048576 = 13)) (e1 : v2 w.toNat = x) (e2 : ∀ k, k ≠ w.toNat → v2 k = v k) : cJ a f0 z (p + 1) c (w + 1) f v2 δ := by
  obtain ⟨⟨a1, a2, a3, a4, a5⟩, h1, h2, h3, h4, h5⟩ := h
  have hk : kW v2 w.toNat = kW v w.toNat := kW_e (fun k hk => e2 k (by omega))
  have hS : kW v2 (w + 1).toNat = kW v w.toNat + nW x := by rw [kW_S (by omega), hk, e1]
  have hb := nW_b x
  refine ⟨⟨a1, by omega, by omega, by omega, by omega⟩, h1, fun j hj => ?_, by rw [e2 0 (by omega)]; exact h3, fun k k1 k2 => wC_v (h4 k k1 k2) (fun j j1 _ _ => ⟨by omega, e2 j (by omega)⟩), h5⟩
  by_cases q : j = w.toNat
  · subst q
    unfold pC
    rw [e1]
    exact ⟨hx.1, by omega, fun y => by omega⟩
  · have := h2 j (by omega)
    unfold pC at this ⊢
    rw [e2 j q]
    exact this
/-- behind a sum -/
theorem cJ_sum (h : cJ a f0 z p c w f v δ) (hδ : 0 ≤ δ) {p2 c2 : Int} {f2 v2 : Nat → Int} (hp2 : p2 ≤ 240) (hs : sJ c.toNat w.toNat p f v p2 c2 w f2 v2 1) : cJ a f0 z p2 c2 w f2 v2 (δ + 1) := by
  obtain ⟨⟨a1, a2, a3, a4, a5⟩, h1, h2, h3, h4, h5⟩ := h
  have hkb := sJ_kb hs
  obtain ⟨⟨b1, b2, b3, b4, b5⟩, g1, g2, g3, g4, g5⟩ := hs
  have hd : ∀ k : Nat, (k : Int) ≤ c → dS f2 k = dS f k := fun k hk => dS_e (fun j hj => by rw [g2 j (by omega)])
  have hc0 := hd c.toNat (by omega)
  have ha0 := hd a (by omega)
  refine ⟨⟨by omega, a2, b3, hp2, by omega⟩, fun k hk => by rw [g2 k (by omega)]; exact h1 k hk, fun j hj => ?_, by rw [g1 0 (by omega)]; exact h3, fun k k1 k2 => ?_, by omega⟩
  · have := h2 j hj
    unfold pC at this ⊢
    rw [g1 j (by omega)]
    refine ⟨this.1, this.2.1, fun y => ?_⟩
    obtain ⟨y1, y2, y3, y4⟩ := this.2.2 y
    rw [g2 _ (by omega), hd _ (by omega), ha0]
    exact ⟨y1, by omega, y3, y4⟩
  · by_cases q : (k : Int) < c
    · have := h4 k k1 q
      unfold wC at this ⊢
      rw [g2 k (by omega), hd k (by omega), ha0]
      refine ⟨this.1, fun y => ⟨(this.2 y).1, ?_⟩⟩
      rcases (this.2 y).2 with ⟨y1, y2, y3⟩ | ⟨j, j1, j2, j3, j4⟩
      · refine Or.inl ⟨y1, by omega, ?_⟩
        rw [hd _ (by omega)]
        exact y3
      · refine Or.inr ⟨j, j1, ?_⟩
        rw [g1 j (by omega)]
        exact ⟨j2, j3, j4⟩
    · have := g4 k (by omega) k2
      unfold wS at this
      exact ⟨⟨this.1, by omega, this.2.2.1, by omega, fun y => by omega, fun y => by omega⟩, fun y => by omega⟩
/-- a code behind: a comparison, or NOT out of what waits -/
theorem cJ_note (h : cJ a f0 z p c w f v δ) {w2 : Int} {f2 : Nat → Int} {x : Int} (hw : (w2 = w ∧ 7 ≤ x / 1048576 ∧ x / 1048576 ≤ 9 ∧ δ = 2 ∧ z = 1) ∨ (w2 = w - 1 ∧ x / 1048576 = 10 ∧ v (w - 1).toNat / 1048576 = 10 ∧ δ = 1 ∧ z = 0)) (hx : 0 ≤ x) (e1 : f2 c.toNat = x) (e2 : ∀ k, k ≠ c.toNat → f2 k = f k) : cJ a f0 0 p (c + 1) w2 f2 v 1 := by
  obtain ⟨⟨a1, a2, a3, a4, a5⟩, h1, h2, h3, h4, h5⟩ := h
  have hd : ∀ k : Nat, (k : Int) ≤ c → dS f2 k = dS f k := fun k hk => wS_up (by omega) e2 hk
  have ha0 := hd a (by omega)
  have hc0 := hd c.toNat (by omega)
  have hw2 : 1 ≤ w2 ∧ w2 ≤ w := by
    rcases hw with q | q
    · omega
    · refine ⟨?_, by omega⟩
      by_cases y : w = 1
      · subst y
        have : v 0 / 1048576 = 10 := q.2.2.1
        omega
      · omega
  have hkw : kW v w2.toNat + 1 ≤ kW v w.toNat + z := by
    rcases hw with ⟨q, -, -, -, q2⟩ | ⟨q, q1, q2, -, q3⟩
    · subst q; omega
    · have hP := kW_P (v := v) (w := w) (by omega)
      rw [nW_1 (Or.inr q2)] at hP
      rw [q]
      omega
  have hef : ef x = 1 - δ := by
    rcases hw with q | q
    · rw [ef_m (by omega) (by omega)]; omega
    · rw [ef_0 q.2.1]; omega
  refine ⟨⟨by omega, hw2.1, by omega, a4, by omega⟩, fun k hk => by rw [e2 k (by omega)]; exact h1 k hk, fun j hj => ?_, h3, fun k k1 k2 => ?_, ?_⟩
  · have := h2 j (by omega)
    unfold pC at this ⊢
    refine ⟨this.1, this.2.1, fun y => ?_⟩
    obtain ⟨y1, y2, y3, y4⟩ := this.2.2 y
    rw [e2 _ (by omega), hd _ (by omega), ha0]
    exact ⟨y1, by omega, y3, y4⟩
  · by_cases q : k = c.toNat
    · subst q
      unfold wC
      rw [e1, hc0, ha0]
      exact ⟨⟨hx, by omega, fun y => by omega, by omega, fun y => by omega, fun y => by omega⟩, fun y => by omega⟩
    · have := h4 k k1 (by omega)
      unfold wC at this ⊢
      rw [e2 k q, hd k (by omega), ha0]
      refine ⟨this.1, fun y => ⟨(this.2 y).1, ?_⟩⟩
      rcases (this.2 y).2 with ⟨y1, y2, y3⟩ | ⟨j, j1, j2, j3, j4⟩
      · refine Or.inl ⟨y1, by omega, ?_⟩
        rw [hd _ (by omega)]
        exact y3
      · refine Or.inr ⟨j, ?_, j2, j3, j4⟩
        rcases hw with u | u
        · omega
        · by_cases y5 : j = (w - 1).toNat
          · subst y5; omega
          · omega
  · rw [dS_S (by omega), e1, hef, hc0, ha0]
    omega
/-- a jump lands -/
theorem ef_q {x y : Int} (h : x / 1048576 = y / 1048576) : ef x = ef y := by
  unfold ef
  rw [h]
theorem cJ_land (h : cJ a f0 0 p c w f v 1) (hq : 11 ≤ v (w - 1).toNat / 1048576 ∧ v (w - 1).toNat / 1048576 ≤ 12) {f2 : Nat → Int} (e1 : f2 (v (w - 1).toNat % 1048576).toNat = 1048576 * (f (v (w - 1).toNat % 1048576).toNat / 1048576) + c) (e2 : ∀ k, k ≠ (v (w - 1).toNat % 1048576).toNat → f2 k = f k) : cJ a f0 0 p c (w - 1) f2 v 1 := by
  obtain ⟨⟨a1, a2, a3, a4, a5⟩, h1, h2, h3, h4, h5⟩ := h
  have hw2 : 2 ≤ w := by
    by_cases y : w = 1
    · subst y
      have : v 0 / 1048576 = 13 := h3
      have : 11 ≤ v 0 / 1048576 ∧ v 0 / 1048576 ≤ 12 := hq
      omega
    · omega
  obtain ⟨r1, r2, r3, r4⟩ := (h2 (w - 1).toNat (by omega)).2.2 hq
  have hk0 := kW_0 v w.toNat
  have hle := kW_le v (b := (w - 1).toNat) (n := w.toNat) (by omega)
  obtain ⟨r, hr⟩ : ∃ r : Nat, (v (w - 1).toNat % 1048576).toNat = r := ⟨_, rfl⟩
  have hri : v (w - 1).toNat % 1048576 = (r : Int) := by omega
  rw [hr] at e1 e2 r3 r4
  have hqd : f2 r / 1048576 = f r / 1048576 := by rw [e1]; omega
  have hqm : f2 r % 1048576 = c := by rw [e1]; omega
  have hg : ∀ k, f2 k / 1048576 = f k / 1048576 := fun k => by
    by_cases q : k = r
    · subst q; exact hqd
    · rw [e2 k q]
  have hd : ∀ k, dS f2 k = dS f k := fun k => dS_e (fun j _ => ef_q (hg j))
  refine ⟨⟨a1, by omega, by omega, a4, by omega⟩, fun k hk => by rw [e2 k (by omega)]; exact h1 k hk, fun j hj => ?_, h3, fun k k1 k2 => ?_, by rw [hd, hd]; exact h5⟩
  · have := h2 j (by omega)
    unfold pC at this ⊢
    rw [hg, hd, hd]
    exact this
  · have := h4 k k1 k2
    unfold wC at this ⊢
    rw [hg k, hd k, hd a]
    by_cases q : k = r
    · subst q
      refine ⟨⟨by rw [e1]; omega, this.1.2.1, fun y => by omega, this.1.2.2.2⟩, fun y => ⟨(this.2 y).1, Or.inl ?_⟩⟩
      rw [hqm, hd]
      exact ⟨by omega, by omega, h5⟩
    · rw [e2 k q]
      refine ⟨this.1, fun y => ⟨(this.2 y).1, ?_⟩⟩
      rcases (this.2 y).2 with ⟨y1, y2, y3⟩ | ⟨j, j1, j2, j3, j4⟩
      · refine Or.inl ⟨y1, y2, ?_⟩
        rw [hd]
        exact y3
      · refine Or.inr ⟨j, ?_, j2, j3, j4⟩
        by_cases y5 : j = (w - 1).toNat
        · subst y5; omega
        · omega
theorem cJ_jump (h : cJ a f0 0 p c w f v 1) (hp : p + 1 ≤ 240) {f2 v2 : Nat → Int} {o : Int} (ho : o = 11 ∨ o = 12) (e1 : f2 c.toNat = 1048576 * o + 0) (e2 : ∀ k, k ≠ c.toNat → f2 k = f k) (u1 : v2 w.toNat = 1048576 * o + c) (u2 : ∀ k, k ≠ w.toNat → v2 k = v k) : cJ a f0 0 (p + 1) (c + 1) (w + 1) f2 v2 0 := by
  obtain ⟨⟨a1, a2, a3, a4, a5⟩, h1, h2, h3, h4, h5⟩ := h
  have hk0 := kW_0 v w.toNat
  have hd : ∀ k : Nat, (k : Int) ≤ c → dS f2 k = dS f k := fun k hk => wS_up (by omega) e2 hk
  have ha0 := hd a (by omega)
  have hc0 := hd c.toNat (by omega)
  have hcm : (1048576 * o + c) % 1048576 = c := by omega
  have hcd : (1048576 * o + c) / 1048576 = o := by omega
  have hk : kW v2 w.toNat = kW v w.toNat := kW_e (fun k hk => u2 k (by omega))
  have hS : kW v2 (w + 1).toNat = kW v w.toNat := by rw [kW_S (by omega), hk, u1, nW_0 (by omega)]; omega
  refine ⟨⟨by omega, by omega, by omega, by omega, by omega⟩, fun k hk => by rw [e2 k (by omega)]; exact h1 k hk, fun j hj => ?_, by rw [u2 0 (by omega)]; exact h3, fun k k1 k2 => ?_, ?_⟩
  · by_cases q : j = w.toNat
    · subst q
      unfold pC
      rw [u1, hcm, e1, hc0, ha0]
      exact ⟨by omega, by omega, fun y => ⟨by omega, by omega, by omega, h5⟩⟩
    · have := h2 j (by omega)
      unfold pC at this ⊢
      rw [u2 j q]
      refine ⟨this.1, this.2.1, fun y => ?_⟩
      obtain ⟨y1, y2, y3, y4⟩ := this.2.2 y
      rw [e2 _ (by omega), hd _ (by omega), ha0]
      exact ⟨y1, by omega, y3, y4⟩
  · by_cases q : k = c.toNat
    · subst q
      unfold wC
      rw [e1, hc0, ha0]
      exact ⟨⟨by omega, by omega, fun y => by omega, by omega, fun y => by omega, fun y => by omega⟩, fun y => ⟨h5, Or.inr ⟨w.toNat, by omega, by rw [u1]; omega, by rw [u1]; omega, by rw [u1]; omega⟩⟩⟩
    · have := wC_v (v2 := v2) (w2 := w + 1) (h4 k k1 (by omega)) (fun j j1 _ _ => ⟨by omega, u2 j (by omega)⟩)
      unfold wC at this ⊢
      rw [e2 k q, hd k (by omega), ha0]
      refine ⟨this.1, fun y => ⟨(this.2 y).1, ?_⟩⟩
      rcases (this.2 y).2 with ⟨y1, y2, y3⟩ | y1
      · refine Or.inl ⟨y1, by omega, ?_⟩
        rw [hd _ (by omega)]
        exact y3
      · exact Or.inr y1
  · rw [dS_S (by omega), e1, ef_m (by omega) (by omega), hc0, ha0]
    omega
theorem cJ_pop (h : cJ a f0 z p c w f v δ) (hw : 2 ≤ w) (hq : ¬ (11 ≤ v (w - 1).toNat / 1048576 ∧ v (w - 1).toNat / 1048576 ≤ 12)) : cJ a f0 z p c (w - 1) f v δ := by
  obtain ⟨⟨a1, a2, a3, a4, a5⟩, h1, h2, h3, h4, h5⟩ := h
  have hle := kW_le v (b := (w - 1).toNat) (n := w.toNat) (by omega)
  refine ⟨⟨a1, by omega, by omega, a4, by omega⟩, h1, fun j hj => h2 j (by omega), h3, fun k k1 k2 => wC_v (h4 k k1 k2) (fun j j1 j2 j3 => ⟨?_, rfl⟩), h5⟩
  by_cases y5 : j = (w - 1).toNat
  · subst y5; omega
  · omega
theorem cJ_st (hp : 1 ≤ p ∧ p ≤ 240) (ha : (a : Int) + z ≤ p) (hv : 0 ≤ v 0 ∧ v 0 / 1048576 = 13) : cJ a f z p a 1 f v 0 := by
  have hk : kW v (1 : Int).toNat = 0 := by
    show 0 + nW (v 0) = 0
    rw [nW_0 (by omega)]
    rfl
  refine ⟨⟨Int.le_refl _, Int.le_refl _, hp.1, hp.2, by omega⟩, fun _ _ => rfl, fun j hj => ?_, hv.2, fun k k1 k2 => absurd k2 (by omega), ?_⟩
  · obtain rfl : j = 0 := by omega
    exact ⟨hv.1, by omega, fun y => by omega⟩
  · rw [Int.toNat_natCast]
    omega
theorem cJ_fin (h : cJ a f0 z p c 1 f v 1) (hz : 0 ≤ z) : ∃ D : Nat → Nat, cOK f D a c := by
  obtain ⟨⟨a1, a2, a3, a4, a5⟩, h1, h2, h3, h4, h5⟩ := h
  have hk0 := kW_0 v (1 : Int).toNat
  refine ⟨fun k => (dS f k - dS f a).toNat, by omega, a1, by omega, ?_, fun k k1 k2 => ?_⟩
  · show (dS f (a : Int).toNat - dS f a).toNat = 0
    rw [Int.toNat_natCast]
    omega
  · have hw := h4 k (by omega) k2
    have hb := dS_b f (a := a) (n := k) (by omega)
    have hs : dS f (k + 1) = dS f k + ef (f k) := rfl
    unfold wC at hw
    refine ⟨⟨hw.1.1, ?_⟩, by show ((dS f k - dS f a).toNat : Int) ≤ _; omega⟩
    show ((f k / 1048576 = 0 ∨ (f k / 1048576 = 1 ∧ f k % 1048576 ≤ 10)) ∧ (dS f (k + 1) - dS f a).toNat = (dS f k - dS f a).toNat + 1) ∨ (f k / 1048576 = 10 ∧ 1 ≤ (dS f k - dS f a).toNat ∧ (dS f (k + 1) - dS f a).toNat = (dS f k - dS f a).toNat) ∨ ((f k / 1048576 = 11 ∨ f k / 1048576 = 12) ∧ 1 ≤ (dS f k - dS f a).toNat ∧ (dS f (k + 1) - dS f a).toNat + 1 = (dS f k - dS f a).toNat ∧ (k : Int) < f k % 1048576 ∧ f k % 1048576 ≤ c ∧ (dS f (f k % 1048576).toNat - dS f a).toNat = (dS f k - dS f a).toNat) ∨ (2 ≤ f k / 1048576 ∧ f k / 1048576 ≤ 9 ∧ 2 ≤ (dS f k - dS f a).toNat ∧ (dS f (k + 1) - dS f a).toNat + 1 = (dS f k - dS f a).toNat)
    rw [hs]
    have hw0 : 0 ≤ f k := hw.1.1
    by_cases q1 : f k / 1048576 ≤ 1
    · rw [ef_1 q1]
      exact Or.inl ⟨by omega, by omega⟩
    by_cases q2 : f k / 1048576 = 10
    · rw [ef_0 q2]
      exact Or.inr (Or.inl ⟨q2, by omega, by omega⟩)
    rw [ef_m (by omega) q2]
    by_cases q3 : 11 ≤ f k / 1048576
    · have := hw.2 q3
      rcases this.2 with ⟨y1, y2, y3⟩ | ⟨j, j1, j2, j3, j4⟩
      · exact Or.inr (Or.inr (Or.inl ⟨by omega, by omega, by omega, y1, y2, by omega⟩))
      · obtain rfl : j = 0 := by omega
        omega
    · exact Or.inr (Or.inr (Or.inr ⟨by omega, by omega, by omega, by omega⟩))
end CJ
theorem sJ_fin {c0 b : Nat} {p0 : Int} {f0 w0 : Nat → Int} {p c w : Int} {f v : Nat → Int} (h : sJ c0 b p0 f0 w0 p c w f v 1) (hc : c ≤ 250) : ∃ D : Nat → Nat, cOK f D c0 c := by
  obtain ⟨⟨a1, a2, a3, a4, a5⟩, h1, h2, h3, h4, h5⟩ := h
  refine ⟨fun k => (dS f k - dS f c0).toNat, by omega, a1, hc, ?_, fun k k1 k2 => ?_⟩
  · show (dS f (c0 : Int).toNat - dS f c0).toNat = 0
    rw [Int.toNat_natCast]
    omega
  · have hw := h4 k (by omega) k2
    have hb := dS_b f (a := c0) (n := k) (by omega)
    have hs : dS f (k + 1) = dS f k + ef (f k) := rfl
    unfold wS at hw
    refine ⟨⟨hw.1, ?_⟩, by show ((dS f k - dS f c0).toNat : Int) ≤ _; omega⟩
    show ((f k / 1048576 = 0 ∨ (f k / 1048576 = 1 ∧ f k % 1048576 ≤ 10)) ∧ (dS f (k + 1) - dS f c0).toNat = (dS f k - dS f c0).toNat + 1) ∨ (f k / 1048576 = 10 ∧ 1 ≤ (dS f k - dS f c0).toNat ∧ (dS f (k + 1) - dS f c0).toNat = (dS f k - dS f c0).toNat) ∨ ((f k / 1048576 = 11 ∨ f k / 1048576 = 12) ∧ 1 ≤ (dS f k - dS f c0).toNat ∧ (dS f (k + 1) - dS f c0).toNat + 1 = (dS f k - dS f c0).toNat ∧ (k : Int) < f k % 1048576 ∧ f k % 1048576 ≤ c ∧ (dS f (f k % 1048576).toNat - dS f c0).toNat = (dS f k - dS f c0).toNat) ∨ (2 ≤ f k / 1048576 ∧ f k / 1048576 ≤ 9 ∧ 2 ≤ (dS f k - dS f c0).toNat ∧ (dS f (k + 1) - dS f c0).toNat + 1 = (dS f k - dS f c0).toNat)
    rw [hs]
    by_cases q1 : f k / 1048576 ≤ 1
    · rw [ef_1 q1]
      exact Or.inl ⟨by omega, by omega⟩
    · rw [ef_m (by omega) (by omega)]
      exact Or.inr (Or.inr (Or.inr ⟨by omega, by omega, by omega, by omega⟩))
theorem cOK_e {f f2 : Nat → Int} {D : Nat → Nat} {a b : Int} (h : cOK f D a b) (he : ∀ k : Nat, a ≤ k → (k : Int) < b → f2 k = f k) : cOK f2 D a b := ⟨h.1, h.2.1, h.2.2.1, h.2.2.2.1, fun k k1 k2 => by rw [he k k1 k2]; exact h.2.2.2.2 k k1 k2⟩
