/-! codes of the law: what each asks of the stack -/
/-- one code: D before it (how many on the stack, whether the top is 0 or 1), e the end -/
def wst (o v : tC) (D : Nat → Nat × Bool) (k e : Nat) : Prop :=
  (((o k = 0 ∧ 0 ≤ v k ∧ v k ≤ 99999) ∨ (o k = 1 ∧ 0 ≤ v k ∧ v k ≤ 10)) ∧ D (k + 1) = ((D k).1 + 1, false)) ∨
  (o k = 10 ∧ v k = 0 ∧ 1 ≤ (D k).1 ∧ (D k).2 = true ∧ D (k + 1) = D k) ∨
  ((o k = 11 ∨ o k = 12) ∧ 1 ≤ (D k).1 ∧ (D k).2 = true ∧ D (k + 1) = ((D k).1 - 1, false) ∧ ∃ t : Nat, v k = (t : Int) ∧ k < t ∧ t ≤ e ∧ D t = D k) ∨
  (2 ≤ o k ∧ o k ≤ 9 ∧ v k = 0 ∧ 2 ≤ (D k).1 ∧ D (k + 1) = ((D k).1 - 1, decide (7 ≤ o k)))
/-- codes from a to e: the stack from x to y, never above h -/
def wOK (o v : tC) (h : Nat) (x y : Nat × Bool) (a e : Nat) : Prop := a ≤ e ∧ ∃ D : Nat → Nat × Bool, D a = x ∧ D e = y ∧ (∀ k, a ≤ k → k ≤ e → (D k).1 ≤ h) ∧ ∀ k, a ≤ k → k < e → wst o v D k e
section WO
variable {o v o' v' : tC} {h h' a e f : Nat} {x y z : Nat × Bool}
theorem wst_c {D D' : Nat → Nat × Bool} {k e e' : Nat} (h : wst o v D k e) (ho : o' k = o k) (hv : v' k = v k) (he : e ≤ e') (hD : ∀ j, k ≤ j → j ≤ e → D' j = D j) (hk : k < e) : wst o' v' D' k e' := by
  unfold wst at h ⊢
  rw [ho, hv, hD k (by omega) (by omega), hD (k + 1) (by omega) (by omega)]
  rcases h with h | h | ⟨h1, h2, h3, h4, t, h5, h6, h7, h8⟩ | h
  · exact Or.inl h
  · exact Or.inr (Or.inl h)
  · exact Or.inr (Or.inr (Or.inl ⟨h1, h2, h3, h4, t, h5, h6, by omega, by rw [hD t (by omega) h7]; exact h8⟩))
  · exact Or.inr (Or.inr (Or.inr h))
theorem wOK_c (w : wOK o v h x y a e) (hc : ∀ k, a ≤ k → k < e → o' k = o k ∧ v' k = v k) : wOK o' v' h x y a e := by
  obtain ⟨h0, D, h1, h2, h3, h4⟩ := w
  exact ⟨h0, D, h1, h2, h3, fun k k1 k2 => wst_c (h4 k k1 k2) (hc k k1 k2).1 (hc k k1 k2).2 (Nat.le_refl e) (fun _ _ _ => rfl) k2⟩
theorem wOK_h (w : wOK o v h x y a e) (hh : h ≤ h') : wOK o v h' x y a e := by
  obtain ⟨h0, D, h1, h2, h3, h4⟩ := w
  exact ⟨h0, D, h1, h2, fun k k1 k2 => Nat.le_trans (h3 k k1 k2) hh, h4⟩
theorem wOK_s (b : Nat) (w : wOK o v h x y a e) : wOK o v (h + b) (x.1 + b, x.2) (y.1 + b, y.2) a e := by
  obtain ⟨h0, D, h1, h2, h3, h4⟩ := w
  refine ⟨h0, fun j => ((D j).1 + b, (D j).2), by show ((D a).1 + b, (D a).2) = _; rw [h1], by show ((D e).1 + b, (D e).2) = _; rw [h2], fun k k1 k2 => Nat.add_le_add_right (h3 k k1 k2) b, fun k k1 k2 => ?_⟩
  have hs := h4 k k1 k2
  unfold wst at hs ⊢
  rcases hs with ⟨s1, s2⟩ | ⟨s1, s2, s3, s4, s5⟩ | ⟨s1, s2, s3, s4, t, s5, s6, s7, s8⟩ | ⟨s1, s2, s3, s4, s5⟩
  · refine Or.inl ⟨s1, ?_⟩
    show ((D (k + 1)).1 + b, (D (k + 1)).2) = ((D k).1 + b + 1, false)
    rw [s2, show (D k).1 + 1 + b = (D k).1 + b + 1 by omega]
  · refine Or.inr (Or.inl ⟨s1, s2, by show 1 ≤ (D k).1 + b; omega, s4, ?_⟩)
    show ((D (k + 1)).1 + b, (D (k + 1)).2) = ((D k).1 + b, (D k).2)
    rw [s5]
  · refine Or.inr (Or.inr (Or.inl ⟨s1, by show 1 ≤ (D k).1 + b; omega, s3, ?_, t, s5, s6, s7, ?_⟩))
    · show ((D (k + 1)).1 + b, (D (k + 1)).2) = ((D k).1 + b - 1, false)
      rw [s4, show (D k).1 - 1 + b = (D k).1 + b - 1 by omega]
    · show ((D t).1 + b, (D t).2) = ((D k).1 + b, (D k).2)
      rw [s8]
  · refine Or.inr (Or.inr (Or.inr ⟨s1, s2, s3, by show 2 ≤ (D k).1 + b; omega, ?_⟩))
    show ((D (k + 1)).1 + b, (D (k + 1)).2) = ((D k).1 + b - 1, decide (7 ≤ o k))
    rw [s5, show (D k).1 - 1 + b = (D k).1 + b - 1 by omega]
theorem wOK_0 (hx : x.1 ≤ h) : wOK o v h x x a a := ⟨Nat.le_refl a, fun _ => x, rfl, rfl, fun _ _ _ => hx, fun k k1 k2 => absurd k2 (by omega)⟩
theorem wOK_t (w1 : wOK o v h x y a e) (w2 : wOK o v h y z e f) : wOK o v h x z a f := by
  obtain ⟨a0, D, a1, a2, a3, a4⟩ := w1
  obtain ⟨b0, E, b1, b2, b3, b4⟩ := w2
  refine ⟨by omega, fun j => if j ≤ e then D j else E j, by show (if a ≤ e then D a else E a) = x; rw [if_pos a0, a1], ?_, fun k k1 k2 => ?_, fun k k1 k2 => ?_⟩
  · show (if f ≤ e then D f else E f) = z
    by_cases q : f ≤ e
    · have q2 : f = e := by omega
      subst q2
      rw [if_pos q, a2, ← b1, b2]
    · rw [if_neg q, b2]
  · show (if k ≤ e then D k else E k).1 ≤ h
    by_cases q : k ≤ e
    · rw [if_pos q]
      exact a3 k k1 q
    · rw [if_neg q]
      exact b3 k (by omega) k2
  · by_cases q : k < e
    · exact wst_c (a4 k k1 q) rfl rfl b0 (fun j j1 j2 => if_pos j2) q
    · refine wst_c (b4 k (by omega) k2) rfl rfl (Nat.le_refl f) (fun j j1 j2 => ?_) k2
      show (if j ≤ e then D j else E j) = E j
      by_cases q2 : j ≤ e
      · have q3 : j = e := by omega
        subst q3
        rw [if_pos q2, a2, b1]
      · rw [if_neg q2]
def wD1 (k : Nat) (x y : Nat × Bool) : Nat → Nat × Bool := fun j => if j ≤ k then x else y
theorem wD1_a {k : Nat} : wD1 k x y k = x := if_pos (Nat.le_refl k)
theorem wD1_b {k : Nat} : wD1 k x y (k + 1) = y := if_neg (by omega)
theorem wOK_1 {k : Nat} (hx : x.1 ≤ h) (hy : y.1 ≤ h) (hs : wst o v (wD1 k x y) k (k + 1)) : wOK o v h x y k (k + 1) := by
  refine ⟨by omega, wD1 k x y, wD1_a, wD1_b, fun j j1 j2 => ?_, fun j j1 j2 => ?_⟩
  · unfold wD1
    by_cases q : j ≤ k
    · rw [if_pos q]; exact hx
    · rw [if_neg q]; exact hy
  · have : j = k := by omega
    subst this
    exact hs
theorem wOK_p {k n : Nat} {w : Bool} (hx : n + 1 ≤ h) (hc : (o k = 0 ∧ 0 ≤ v k ∧ v k ≤ 99999) ∨ (o k = 1 ∧ 0 ≤ v k ∧ v k ≤ 10)) : wOK o v h (n, w) (n + 1, false) k (k + 1) := wOK_1 (by show n ≤ h; omega) hx (Or.inl ⟨hc, by rw [wD1_a, wD1_b]⟩)
theorem wOK_n {k n : Nat} (hx : n + 1 ≤ h) (h1 : o k = 10) (h2 : v k = 0) : wOK o v h (n + 1, true) (n + 1, true) k (k + 1) := wOK_1 hx hx (Or.inr (Or.inl ⟨h1, h2, by rw [wD1_a]; show 1 ≤ n + 1; omega, by rw [wD1_a], by rw [wD1_a, wD1_b]⟩))
theorem wOK_b {k n : Nat} {w : Bool} (hx : n + 2 ≤ h) (h1 : 2 ≤ o k ∧ o k ≤ 9) (h2 : v k = 0) {q : Bool} (hq : q = decide (7 ≤ o k)) : wOK o v h (n + 2, w) (n + 1, q) k (k + 1) := wOK_1 hx (by show n + 1 ≤ h; omega) (Or.inr (Or.inr (Or.inr ⟨h1.1, h1.2, h2, by rw [wD1_a]; show 2 ≤ n + 2; omega, by rw [wD1_a, wD1_b, hq]; rfl⟩)))
theorem wOK_j {k n t : Nat} (hx : n + 1 ≤ h) (h1 : o k = 11 ∨ o k = 12) (h2 : v k = (t : Int)) (w : wOK o v h (n, false) (n + 1, true) (k + 1) t) : wOK o v h (n + 1, true) (n + 1, true) k t := by
  obtain ⟨a0, D, a1, a2, a3, a4⟩ := w
  refine ⟨by omega, fun j => if j ≤ k then (n + 1, true) else D j, if_pos (Nat.le_refl k), by show (if t ≤ k then (n + 1, true) else D t) = (n + 1, true); rw [if_neg (by omega), a2], fun j j1 j2 => ?_, fun j j1 j2 => ?_⟩
  · show (if j ≤ k then (n + 1, true) else D j).1 ≤ h
    by_cases q : j ≤ k
    · rw [if_pos q]; exact hx
    · rw [if_neg q]; exact a3 j (by omega) j2
  · by_cases q : j = k
    · subst q
      have e0 : (if j ≤ j then ((n + 1, true) : Nat × Bool) else D j) = (n + 1, true) := if_pos (Nat.le_refl j)
      have e1 : (if j + 1 ≤ j then ((n + 1, true) : Nat × Bool) else D (j + 1)) = (n, false) := by rw [if_neg (by omega), a1]
      have e2 : (if t ≤ j then ((n + 1, true) : Nat × Bool) else D t) = (n + 1, true) := by rw [if_neg (by omega), a2]
      refine Or.inr (Or.inr (Or.inl ⟨h1, ?_, ?_, ?_, t, h2, by omega, Nat.le_refl t, ?_⟩))
      · show 1 ≤ (if j ≤ j then ((n + 1, true) : Nat × Bool) else D j).1
        rw [e0]; show 1 ≤ n + 1; omega
      · show (if j ≤ j then ((n + 1, true) : Nat × Bool) else D j).2 = true
        rw [e0]
      · show (if j + 1 ≤ j then ((n + 1, true) : Nat × Bool) else D (j + 1)) = ((if j ≤ j then ((n + 1, true) : Nat × Bool) else D j).1 - 1, false)
        rw [e0, e1]; rfl
      · show (if t ≤ j then ((n + 1, true) : Nat × Bool) else D t) = (if j ≤ j then ((n + 1, true) : Nat × Bool) else D j)
        rw [e0, e2]
    · refine wst_c (a4 j (by omega) j2) rfl rfl (Nat.le_refl t) (fun i i1 i2 => ?_) j2
      show (if i ≤ k then ((n + 1, true) : Nat × Bool) else D i) = D i
      rw [if_neg (by omega)]
end WO
def wx (K : Nat) : Nat × Bool := if K = 1 ∨ K = 3 then (1, false) else if K = 7 ∨ K = 9 then (1, true) else (0, false)
def wy (K : Nat) : Nat × Bool := (1, decide (5 ≤ K))
def wh (K d : Nat) : Nat := 2 * (6 - d) + (if K = 0 then 1 else if K = 1 ∨ K = 2 then 2 else if K = 3 ∨ K = 4 then 3 else 4)
/-- what a reading has laid -/
def wI (K d : Nat) (k : Int) (o v : tC) : lR → Prop
  | .inl _ => True
  | .inr (_, k1, o1, v1) => ∃ a e : Nat, k = (a : Int) ∧ k1 = (e : Int) ∧ (∀ j : Nat, j < a → o1 j = o j ∧ v1 j = v j) ∧ wOK o1 v1 (wh K d) (wx K) (wy K) a e
theorem wu_e {o : tC} {k : Nat} {x : Int} : updI o k x k = x := if_pos rfl
theorem wu_n {o : tC} {k j : Nat} {x : Int} (h : j ≠ k) : updI o k x j = o j := if_neg h
theorem wI_0 {K d : Nat} {p k : Int} {o v : tC} (hk : 0 ≤ k) (h1 : wx K = wy K) (h2 : 1 ≤ wh K d) : wI K d k o v (.inr (p, k, o, v)) := by
  refine ⟨k.toNat, k.toNat, by omega, by omega, fun _ _ => ⟨rfl, rfl⟩, ?_⟩
  rw [h1]
  exact wOK_0 h2
/-- one, then its tail -/
theorem wI_c {K L K' d : Nat} {k k1 p1 : Int} {o v o1 v1 : tC} {r : lR} (h1 : wI K d k o v (.inr (p1, k1, o1, v1))) (h2 : wI L d k1 o1 v1 r) (x1 : wx K = wx K') (x2 : wx L = wy K) (x3 : wy L = wy K') (y1 : wh K d ≤ wh K' d) (y2 : wh L d ≤ wh K' d) : wI K' d k o v r := by
  rcases r with f | ⟨p2, k2, o2, v2⟩
  · trivial
  obtain ⟨a, e, rfl, rfl, c1, w1⟩ := h1
  obtain ⟨e', f, q, rfl, c2, w2⟩ := h2
  have q : e' = e := by omega
  subst q
  have ha := w1.1
  refine ⟨a, f, rfl, rfl, fun j hj => ⟨(c2 j (by omega)).1.trans (c1 j hj).1, (c2 j (by omega)).2.trans (c1 j hj).2⟩, ?_⟩
  rw [x1] at w1
  rw [x2, x3] at w2
  exact wOK_t (wOK_c (wOK_h w1 y1) (fun j _ j2 => c2 j j2)) (wOK_h w2 y2)
/-- a tail: an operation between -/
theorem wI_o {K L d : Nat} {k k1 p1 c : Int} {o v o1 v1 : tC} {r : lR} (h1 : wI K d k o v (.inr (p1, k1, o1, v1))) (h2 : wI L d (k1 + 1) (updI o1 k1.toNat c) (updI v1 k1.toNat 0) r) (hc : 2 ≤ c ∧ c ≤ 6) (x1 : wx K = (0, false)) (x2 : wy K = (1, false)) (x3 : wx L = (1, false)) (y1 : wh K d + 1 ≤ wh L d) (y2 : 2 ≤ wh L d) : wI L d k o v r := by
  rcases r with f | ⟨p2, k2, o2, v2⟩
  · trivial
  obtain ⟨a, e, rfl, rfl, c1, w1⟩ := h1
  obtain ⟨e', f, q, rfl, c2, w2⟩ := h2
  have q : e' = e + 1 := by omega
  subst q
  rw [show ((e : Int)).toNat = e from rfl] at c2
  have ha := w1.1
  have ce := c2 e (by omega)
  rw [wu_e, wu_e] at ce
  have cj : ∀ j, j < e → o2 j = o1 j ∧ v2 j = v1 j := fun j hj => by
    have := c2 j (by omega)
    rw [wu_n (by omega), wu_n (by omega)] at this
    exact this
  refine ⟨a, f, rfl, rfl, fun j hj => ⟨(cj j (by omega)).1.trans (c1 j hj).1, (cj j (by omega)).2.trans (c1 j hj).2⟩, ?_⟩
  rw [x1, x2] at w1
  rw [x3] at w2 ⊢
  have w1' : wOK o1 v1 (wh K d + 1) (1, false) (2, false) a e := wOK_s 1 w1
  have wb : wOK o2 v2 (wh L d) (2, false) (1, false) e (e + 1) := wOK_b (n := 0) y2 (by rw [ce.1]; omega) ce.2 (by rw [ce.1]; exact (decide_eq_false (by omega)).symm)
  exact wOK_t (wOK_c (wOK_h w1' y1) (fun j _ j2 => cj j j2)) (wOK_t wb w2)
/-- a tail: a jump, one, the landing -/
theorem wI_j {K L d : Nat} {k k1 p1 c : Int} {o v o1 v1 : tC} {r : lR} (h1 : wI K d (k + 1) (updI o k.toNat c) (updI v k.toNat 0) (.inr (p1, k1, o1, v1))) (h2 : wI L d k1 o1 (updI v1 k.toNat k1) r) (hk : 0 ≤ k) (hc : c = 11 ∨ c = 12) (x1 : wx K = (0, false)) (x2 : wy K = (1, true)) (x3 : wx L = (1, true)) (y1 : wh K d ≤ wh L d) (y2 : 1 ≤ wh L d) : wI L d k o v r := by
  rcases r with f | ⟨p2, k2, o2, v2⟩
  · trivial
  obtain ⟨a, rfl⟩ : ∃ a : Nat, k = a := ⟨k.toNat, by omega⟩
  rw [show ((a : Int)).toNat = a from rfl] at h1 h2
  obtain ⟨a', e, q, rfl, c1, w1⟩ := h1
  have q : a' = a + 1 := by omega
  subst q
  obtain ⟨e', f, q, rfl, c2, w2⟩ := h2
  have q : e' = e := by omega
  subst q
  have ha := w1.1
  have ca := c1 a (by omega)
  rw [wu_e] at ca
  have cb := c2 a (by omega)
  rw [wu_e] at cb
  refine ⟨a, f, rfl, rfl, fun j hj => ?_, ?_⟩
  · have q1 := c1 j (by omega)
    have q2 := c2 j (by omega)
    rw [wu_n (by omega), wu_n (by omega)] at q1
    rw [wu_n (by omega)] at q2
    exact ⟨q2.1.trans q1.1, q2.2.trans q1.2⟩
  rw [x1, x2] at w1
  rw [x3] at w2 ⊢
  have wj : wOK o2 v2 (wh L d) (1, true) (1, true) a e' := wOK_j (n := 0) y2 (by rw [cb.1, ca.1]; exact hc) cb.2 (wOK_c (wOK_h w1 y1) (fun j j1 j2 => by
    have q2 := c2 j j2
    rw [wu_n (by omega)] at q2
    exact q2))
  exact wOK_t wj w2
theorem wI_up {K K' d d' : Nat} {k : Int} {o v : tC} {p p1 k1 : Int} {o1 v1 : tC} (h : wI K d k o v (.inr (p1, k1, o1, v1))) (hx : wx K = wx K') (hy : wy K = wy K') (hh : wh K d ≤ wh K' d') : wI K' d' k o v (.inr (p, k1, o1, v1)) := by
  obtain ⟨a, e, h1, h2, h3, h4⟩ := h
  refine ⟨a, e, h1, h2, h3, ?_⟩
  rw [← hx, ← hy]
  exact wOK_h h4 hh
theorem wI_u {K K' d d' : Nat} {k : Int} {o v : tC} {r : lR} (h : wI K d k o v r) (hx : wx K = wx K') (hy : wy K = wy K') (hh : wh K d ≤ wh K' d') : wI K' d' k o v r := by
  rcases r with f | ⟨p2, k2, o2, v2⟩
  · trivial
  · exact wI_up h hx hy hh
theorem wI_l (H : Int → Int) (n : Int) : lCl H n (fun K d _ k o v r => wI K d k o v r) := by
  have tl : ∀ {p k : Int}, lP n p k → 0 ≤ k := fun h => h.2.2.1
  have T3 : ∀ c, 4 ≤ lT3 c → 2 ≤ lT3 c ∧ lT3 c ≤ 6 := fun c h => by have := lT3_b c; omega
  have S2 : ∀ c, 2 ≤ lS2 c → 2 ≤ lS2 c ∧ lS2 c ≤ 6 := fun c h => by have := lS2_b c; omega
  refine ⟨?_, ?_, ?_, ?_, ?_, ?_, ?_, ?_, ?_, ?_, ?_, ?_, ?_, ?_, ?_, ?_, ?_, ?_, ?_, ?_, ?_, ?_, ?_, ?_, ?_, ?_, ?_, ?_, ?_, ?_, ?_, ?_, ?_, ?_, ?_, ?_, ?_, ?_, ?_, ?_⟩
  · intros; trivial
  · intros; trivial
  · intros; trivial
  · intro d p k o v p1 k1 o1 v1 h0 h1 h2 h3 h4 h5
    refine wI_up h3 (by decide) (by decide) ?_
    show 2 * (6 - (d + 1)) + 3 ≤ 2 * (6 - d) + 1
    omega
  · intro d p k o v x q h0 h1
    have := tl h0
    have hb := lNu_b h1
    refine ⟨k.toNat, (k + 1).toNat, by omega, by omega, fun j hj => ⟨wu_n (by omega), wu_n (by omega)⟩, ?_⟩
    rw [show (k + 1).toNat = k.toNat + 1 by omega]
    refine wOK_p (n := 0) (w := false) (by show 1 ≤ 2 * (6 - d) + 1; omega) (Or.inl ⟨wu_e, ?_⟩)
    rw [wu_e]
    exact ⟨hb.1, hb.2.1⟩
  · intros; trivial
  · intro d p k o v h0 h1
    have := tl h0
    have hb := lFa_b (H p)
    refine ⟨k.toNat, (k + 1).toNat, by omega, by omega, fun j hj => ⟨wu_n (by omega), wu_n (by omega)⟩, ?_⟩
    rw [show (k + 1).toNat = k.toNat + 1 by omega]
    refine wOK_p (n := 0) (w := false) (by show 1 ≤ 2 * (6 - d) + 1; omega) (Or.inr ⟨wu_e, ?_⟩)
    rw [wu_e]
    omega
  · intros; trivial
  · intro d p k o v h0 h1
    exact wI_0 (tl h0) (by decide) (by show 1 ≤ 2 * (6 - d) + 2; omega)
  · intros; trivial
  · intro d p k o v p1 k1 o1 v1 r h0 h1 h2 h3 h4
    exact wI_o h2 h4 (T3 _ h1) (by decide) (by decide) (by decide) (by show 2 * (6 - d) + 1 + 1 ≤ 2 * (6 - d) + 2; omega) (by show 2 ≤ 2 * (6 - d) + 2; omega)
  · intro d p k o v h0 h1
    exact wI_0 (tl h0) (by decide) (by show 1 ≤ 2 * (6 - d) + 3; omega)
  · intros; trivial
  · intro d p k o v p1 k1 o1 v1 r h0 h1 h2 h3 h4
    exact wI_o h2 h4 (S2 _ h1) (by decide) (by decide) (by decide) (by show 2 * (6 - d) + 2 + 1 ≤ 2 * (6 - d) + 3; omega) (by show 2 ≤ 2 * (6 - d) + 3; omega)
  · intros; trivial
  · intro d p k o v p1 k1 o1 v1 r h0 h1 h2 h3
    exact wI_c h1 h3 (by decide) (by decide) (by decide) (by show 2 * (6 - d) + 1 ≤ 2 * (6 - d) + 2; omega) (Nat.le_refl _)
  · intros; trivial
  · intro d p k o v p1 k1 o1 v1 r h0 h1 h2 h3
    exact wI_c h1 h3 (by decide) (by decide) (by decide) (by show 2 * (6 - d) + 2 ≤ 2 * (6 - d) + 3; omega) (Nat.le_refl _)
  · intros; trivial
  · intro d p k o v p1 k1 o1 v1 r h0 h1 h2 h3
    exact wI_c h1 h3 (by decide) (by decide) (by decide) (Nat.le_refl _) (Nat.le_refl _)
  · intros; trivial
  · intro d p k o v p1 k1 o1 v1 r h0 h1 h2 h3
    exact wI_c h1 h3 (by decide) (by decide) (by decide) (Nat.le_refl _) (Nat.le_refl _)
  · intros; trivial
  · intros; trivial
  · intros; trivial
  · intro d p k o v p1 k1 o1 v1 p2 k2 o2 v2 h0 h1 h2 h3 h4 h5
    have hc := lC3_b (H p1)
    obtain ⟨a, e, rfl, rfl, c1, w1⟩ := h1
    obtain ⟨e', f, q, rfl, c2, w2⟩ := h4
    have q : e' = e := by omega
    subst q
    have ha := w1.1
    have he := w2.1
    rw [show ((f : Int)).toNat = f from rfl]
    refine ⟨a, f + 1, rfl, rfl, fun j hj => ?_, ?_⟩
    · rw [wu_n (by omega), wu_n (by omega)]
      exact ⟨(c2 j (by omega)).1.trans (c1 j hj).1, (c2 j (by omega)).2.trans (c1 j hj).2⟩
    · have w1' : wOK o1 v1 (wh 4 d) (0, false) (1, false) a e' := w1
      have w2' : wOK o2 v2 (wh 4 d + 1) (1, false) (2, false) e' f := wOK_s 1 w2
      have wb : wOK (updI o2 f (lC3 (H p1))) (updI v2 f 0) (wh 5 d) (2, false) (1, true) f (f + 1) := wOK_b (n := 0) (by show 2 ≤ 2 * (6 - d) + 4; omega) (by rw [wu_e]; omega) wu_e (by rw [wu_e]; exact (decide_eq_true (by omega)).symm)
      refine wOK_t (wOK_c (wOK_h w1' (h' := wh 5 d) (by show 2 * (6 - d) + 3 ≤ 2 * (6 - d) + 4; omega)) (fun j _ j2 => ?_)) (wOK_t (wOK_c (wOK_h w2' (h' := wh 5 d) (by show 2 * (6 - d) + 3 + 1 ≤ 2 * (6 - d) + 4; omega)) (fun j _ j2 => ?_)) wb)
      · rw [wu_n (by omega), wu_n (by omega)]
        exact c2 j j2
      · rw [wu_n (by omega), wu_n (by omega)]
        exact ⟨rfl, rfl⟩
  · intros; trivial
  · intros; trivial
  · intro d p k o v p1 k1 o1 v1 h0 h1 h2 h3 h4
    obtain ⟨a, e, rfl, rfl, c1, w1⟩ := h3
    have ha := w1.1
    rw [show ((e : Int)).toNat = e from rfl]
    refine ⟨a, e + 1, rfl, rfl, fun j hj => ?_, ?_⟩
    · rw [wu_n (by omega), wu_n (by omega)]
      exact c1 j hj
    · have w1' : wOK o1 v1 (wh 6 (d + 1)) (0, false) (1, true) a e := w1
      have wn : wOK (updI o1 e 10) (updI v1 e 0) (wh 6 d) (1, true) (1, true) e (e + 1) := wOK_n (n := 0) (by show 1 ≤ 2 * (6 - d) + 4; omega) wu_e wu_e
      refine wOK_t (wOK_c (wOK_h w1' (h' := wh 6 d) (by show 2 * (6 - (d + 1)) + 4 ≤ 2 * (6 - d) + 4; omega)) (fun j _ j2 => ?_)) wn
      rw [wu_n (by omega), wu_n (by omega)]
      exact ⟨rfl, rfl⟩
  · intros; trivial
  · intros; trivial
  · intros; trivial
  · intro d p k o v p1 k1 o1 v1 h0 h1 h2 h3 h4 h5
    refine wI_up h3 (by decide) (by decide) ?_
    show 2 * (6 - (d + 1)) + 4 ≤ 2 * (6 - d) + 4
    omega
  · intro d p k o v r h0 h1 h2 h3
    exact wI_u h3 (by decide) (by decide) (Nat.le_refl _)
  · intro d p k o v h0 h1
    exact wI_0 (tl h0) (by decide) (by show 1 ≤ 2 * (6 - d) + 4; omega)
  · intros; trivial
  · intro d p k o v p1 k1 o1 v1 r h0 h1 h2 h3 h4 h5
    exact wI_j h2 h5 (tl h0) (Or.inl rfl) (by decide) (by decide) (by decide) (Nat.le_refl _) (by show 1 ≤ 2 * (6 - d) + 4; omega)
  · intro d p k o v h0 h1
    exact wI_0 (tl h0) (by decide) (by show 1 ≤ 2 * (6 - d) + 4; omega)
  · intros; trivial
  · intro d p k o v p1 k1 o1 v1 r h0 h1 h2 h3 h4 h5
    exact wI_j h2 h5 (tl h0) (Or.inr rfl) (by decide) (by decide) (by decide) (Nat.le_refl _) (by show 1 ≤ 2 * (6 - d) + 4; omega)
/-- a sum, a condition as they are laid -/
theorem wI_sum {H : Int → Int} {n : Int} {K d : Nat} {p k : Int} {o v : tC} {r : lR} (h : lI H n K d p k o v r) : wI K d k o v r := h _ (wI_l H n)
/-- the clauses read so far -/
def wCl (k : Int) (o v : tC) (c : Int) (st co en : tC) : Prop := 0 ≤ k ∧ 0 ≤ c ∧ ∀ q : Nat, (q : Int) < c → ∃ a h e : Nat, st q = (a : Int) ∧ co q = (h : Int) ∧ en q = (e : Int) ∧ (e : Int) ≤ k ∧ wOK o v 16 (0, false) (1, false) a h ∧ wOK o v 16 (0, false) (1, true) h e
def wZ (k : Int) (o v : tC) (c : Int) (st co en : tC) : lZ → Prop
  | .inl _ => True
  | .inr (_, k1, o1, v1, c1, _, st1, co1, en1) => wCl k o v c st co en → wCl k1 o1 v1 c1 st1 co1 en1
theorem wU {H : Int → Int} {n p k : Int} {o v : tC} {c : Int} {le st co en : tC} {p1 k1 : Int} {o1 v1 : tC} {c1 : Int} {le1 st1 co1 en1 : tC} (h : lU H n p k o v c le st co en (.inr (p1, k1, o1, v1, c1, le1, st1, co1, en1))) (hw : wCl k o v c st co en) : wCl k1 o1 v1 c1 st1 co1 en1 := by
  unfold lU at h
  rcases h with ⟨-, h⟩ | ⟨-, -, h⟩ | ⟨-, -, ⟨f, -, h⟩ | ⟨p2, k2, o2, v2, hA, -, ⟨-, h⟩ | ⟨-, ⟨f, -, h⟩ | ⟨p3, k3, o3, v3, hB, -, ⟨-, h⟩ | ⟨-, h⟩⟩⟩⟩⟩
  · cases h
  · cases h
  · cases h
  · cases h
  · cases h
  · cases h
  · cases h
    have iA : wI 4 0 k o v (.inr (p2, k2, o2, v2)) := wI_sum hA
    have iB : wI 10 1 k2 o2 v2 (.inr (p3, k1, o1, v1)) := wI_sum hB
    obtain ⟨a, m, rfl, rfl, cA, wA⟩ := iA
    obtain ⟨m', e, q, rfl, cB, wB⟩ := iB
    have q : m' = m := by omega
    subst q
    have ha := wA.1
    have he := wB.1
    obtain ⟨h0, h1, h2⟩ := hw
    refine ⟨by omega, by omega, fun q hq => ?_⟩
    by_cases qe : q = c.toNat
    · subst qe
      exact ⟨a, m', e, wu_e, wu_e, wu_e, Int.le_refl _, wOK_c (wOK_h wA (by decide)) (fun j _ j2 => cB j j2), wOK_h wB (by decide)⟩
    · obtain ⟨a2, m2, e2, s1, s2, s3, s4, s5, s6⟩ := h2 q (by omega)
      have t5 := s5.1
      have t6 := s6.1
      exact ⟨a2, m2, e2, (wu_n qe).trans s1, (wu_n qe).trans s2, (wu_n qe).trans s3, by omega, wOK_c s5 (fun j _ j2 => ⟨(cB j (by omega)).1.trans (cA j (by omega)).1, (cB j (by omega)).2.trans (cA j (by omega)).2⟩), wOK_c s6 (fun j _ j2 => ⟨(cB j (by omega)).1.trans (cA j (by omega)).1, (cB j (by omega)).2.trans (cA j (by omega)).2⟩)⟩
theorem wZ_l (H : Int → Int) (n : Int) : lWc H n (fun _ k o v c _ st co en r => wZ k o v c st co en r) := by
  refine ⟨?_, ?_, ?_, ?_⟩
  · intros; trivial
  · intro p k o v c le st co en p1 k1 o1 v1 c1 le1 st1 co1 en1 h0 h1 h2 h3
    exact fun hw => wU h2 hw
  · intros; trivial
  · intro p k o v c le st co en p1 k1 o1 v1 c1 le1 st1 co1 en1 r h0 h1 h2 h3 h4 h5
    rcases r with f | ⟨p2, k2, o2, v2, c2, le2, st2, co2, en2⟩
    · trivial
    · exact fun hw => h5 (wU h2 hw)
theorem wCl_law {H : Int → Int} {n : Int} {o v le st co en : tC} {p1 k1 : Int} {o1 v1 : tC} {c1 : Int} {le1 st1 co1 en1 : tC} (h : lWs H n 0 0 o v 0 le st co en (.inr (p1, k1, o1, v1, c1, le1, st1, co1, en1))) : wCl k1 o1 v1 c1 st1 co1 en1 := h _ (wZ_l H n) ⟨Int.le_refl 0, Int.le_refl 0, fun q hq => absurd hq (by omega)⟩
