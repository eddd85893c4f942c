/-! orders counted from the front and from the back: numbers alone -/
def oS (f : Nat → Int) : Nat → Int
  | 0 => 0
  | n + 1 => oS f n + f n
theorem oS_c {f g : Nat → Int} : ∀ {n : Nat}, (∀ k, k < n → f k = g k) → oS f n = oS g n
  | 0, _ => rfl
  | n + 1, h => by
    show oS f n + f n = oS g n + g n
    rw [oS_c (n := n) (fun k hk => h k (by omega)), h n (by omega)]
theorem oS_a {f g : Nat → Int} : ∀ {n : Nat}, oS (fun k => f k + g k) n = oS f n + oS g n
  | 0 => rfl
  | n + 1 => by
    show oS (fun k => f k + g k) n + (f n + g n) = oS f n + f n + (oS g n + g n)
    rw [oS_a (n := n)]
    omega
theorem oS_m {f : Nat → Int} {c : Int} : ∀ {n : Nat}, oS (fun k => c * f k) n = c * oS f n
  | 0 => (Int.mul_zero c).symm
  | n + 1 => by
    show oS (fun k => c * f k) n + c * f n = c * (oS f n + f n)
    rw [oS_m (n := n), Int.mul_add]
theorem oS_z {f : Nat → Int} : ∀ {n : Nat}, (∀ k, k < n → f k = 0) → oS f n = 0
  | 0, _ => rfl
  | n + 1, h => by
    show oS f n + f n = 0
    rw [oS_z (n := n) (fun k hk => h k (by omega)), h n (by omega)]
    rfl
theorem oS_o {f : Nat → Int} {a : Nat} : ∀ {n : Nat}, a < n → oS (fun k => if k = a then f k else 0) n = f a
  | 0, h => absurd h (Nat.not_lt_zero _)
  | n + 1, h => by
    show oS (fun k => if k = a then f k else 0) n + (if n = a then f n else 0) = f a
    by_cases e : n = a
    · subst e
      rw [if_pos rfl, oS_z (fun k hk => if_neg (by omega)), Int.zero_add]
    · rw [if_neg e, oS_o (n := n) (by omega), Int.add_zero]
theorem oS_le {f g : Nat → Int} : ∀ {n : Nat}, (∀ k, k < n → f k ≤ g k) → oS f n ≤ oS g n
  | 0, _ => Int.le_refl _
  | n + 1, h => by
    show oS f n + f n ≤ oS g n + g n
    have h1 := oS_le (n := n) (fun k hk => h k (by omega))
    have h2 := h n (by omega)
    omega
theorem oS_n {f : Nat → Int} {n : Nat} (h : ∀ k, k < n → 0 ≤ f k) : 0 ≤ oS f n := by
  have h1 := oS_le (f := fun _ => 0) (g := f) (n := n) h
  rw [oS_z (f := fun _ => 0) (fun _ _ => rfl)] at h1
  exact h1
/-- it can follow -/
def oc (A : Nat → Nat) (k S : Nat) : Bool := !S.testBit k && ((A k &&& S) == A k)
theorem oc_b {A : Nat → Nat} {k S : Nat} (h : oc A k S = true) : S.testBit k = false := by
  unfold oc at h
  rw [Bool.and_eq_true, Bool.not_eq_true'] at h
  exact h.1
theorem ob_lt {S k : Nat} (h : S.testBit k = false) : S < S ||| 2 ^ k := by
  rcases Nat.lt_or_eq_of_le (Nat.left_le_or (n := S) (m := 2 ^ k)) with q | q
  · exact q
  · have h1 : (S ||| 2 ^ k).testBit k = true := by rw [Nat.testBit_or, Nat.testBit_two_pow_self, Bool.or_true]
    rw [← q, h] at h1
    cases h1
theorem ob_up {S k N : Nat} (hS : S < 2 ^ N) (hk : k < N) : S ||| 2 ^ k < 2 ^ N := Nat.or_lt_two_pow hS (Nat.pow_lt_pow_right (by decide) hk)
theorem ob_t {S k j : Nat} : (S ||| 2 ^ k).testBit j = (S.testBit j || decide (k = j)) := by rw [Nat.testBit_or, Nat.testBit_two_pow]
/-- orders of what is left, with fuel -/
def oL (A : Nat → Nat) (N : Nat) : Nat → Nat → Int
  | 0, S => if S + 1 = 2 ^ N then 1 else 0
  | m + 1, S => if S + 1 = 2 ^ N then 1 else oS (fun k => if oc A k S = true then oL A N m (S ||| 2 ^ k) else 0) N
theorem oL_f {A : Nat → Nat} {N : Nat} : ∀ {m S : Nat}, S < 2 ^ N → 2 ^ N ≤ S + m + 1 → oL A N m S = oL A N (m + 1) S
  | 0, S, h1, h2 => by
    show (if S + 1 = 2 ^ N then 1 else 0) = (if S + 1 = 2 ^ N then 1 else _)
    rw [if_pos (by omega), if_pos (by omega)]
  | m + 1, S, h1, h2 => by
    show (if S + 1 = 2 ^ N then 1 else oS (fun k => if oc A k S = true then oL A N m (S ||| 2 ^ k) else 0) N) = (if S + 1 = 2 ^ N then 1 else oS (fun k => if oc A k S = true then oL A N (m + 1) (S ||| 2 ^ k) else 0) N)
    by_cases e : S + 1 = 2 ^ N
    · rw [if_pos e, if_pos e]
    · rw [if_neg e, if_neg e]
      refine oS_c (fun k hk => ?_)
      by_cases q : oc A k S = true
      · have h3 := ob_lt (oc_b q)
        rw [if_pos q, if_pos q, oL_f (m := m) (ob_up h1 hk) (by omega)]
      · rw [if_neg q, if_neg q]
/-- orders of what is left -/
def oF (A : Nat → Nat) (N S : Nat) : Int := oL A N (2 ^ N) S
theorem oF_1 {A : Nat → Nat} {N S : Nat} (h : S + 1 = 2 ^ N) : oF A N S = 1 := by
  unfold oF
  have h1 : ∃ m, 2 ^ N = m + 1 := ⟨S, h.symm⟩
  obtain ⟨m, h1⟩ := h1
  rw [h1]
  show (if S + 1 = 2 ^ N then 1 else _) = _
  rw [if_pos h]
theorem oF_s {A : Nat → Nat} {N S : Nat} (h : S + 1 < 2 ^ N) : oF A N S = oS (fun k => if oc A k S = true then oF A N (S ||| 2 ^ k) else 0) N := by
  unfold oF
  rw [oL_f (by omega) (by omega)]
  show (if S + 1 = 2 ^ N then 1 else oS (fun k => if oc A k S = true then oL A N (2 ^ N) (S ||| 2 ^ k) else 0) N) = _
  rw [if_neg (by omega)]
/-- orders that stand first, as they are counted: by stage -/
def oW (A : Nat → Nat) (N : Nat) : Nat → Nat → Int
  | 0, T => if T = 0 then 1 else 0
  | s + 1, T => oW A N s T + oS (fun k => if oc A k s = true ∧ T = s ||| 2 ^ k then oW A N s s else 0) N
def oV (A : Nat → Nat) (N s k T : Nat) : Int := oW A N s T + oS (fun j => if oc A j s = true ∧ T = s ||| 2 ^ j then oW A N s s else 0) k
theorem oV_0 {A : Nat → Nat} {N s T : Nat} : oV A N s 0 T = oW A N s T := Int.add_zero _
theorem oV_N {A : Nat → Nat} {N s T : Nat} : oV A N s N T = oW A N (s + 1) T := rfl
theorem oV_s {A : Nat → Nat} {N s k T : Nat} : oV A N s (k + 1) T = oV A N s k T + (if oc A k s = true ∧ T = s ||| 2 ^ k then oW A N s s else 0) := by
  show oW A N s T + (oS _ k + _) = _
  rw [← Int.add_assoc]
  rfl
theorem oV_i {A : Nat → Nat} {N s k T : Nat} (h : T ≤ s) : oV A N s k T = oW A N s T := by
  unfold oV
  rw [oS_z (fun j _ => ?_), Int.add_zero]
  refine if_neg (fun z => ?_)
  have := ob_lt (oc_b z.1)
  omega
theorem oW_t {A : Nat → Nat} {N s : Nat} : ∀ {t : Nat}, s ≤ t → oW A N t s = oW A N s s
  | 0, h => by rw [show s = 0 by omega]
  | t + 1, h => by
    by_cases e : s = t + 1
    · rw [e]
    · rw [← oV_N, oV_i (by omega), oW_t (t := t) (by omega)]
section PT
variable {A : Nat → Nat} {N : Nat}
def oP (A : Nat → Nat) (N : Nat) (G : Nat → Int) (s : Nat) : Int := oS (fun T => if s ≤ T then oW A N s T * G T else 0) (2 ^ N)
theorem oP_k {G : Nat → Int} {s : Nat} (hs : s < 2 ^ N) : ∀ {n : Nat}, n ≤ N → oS (fun T => if s + 1 ≤ T then oS (fun k => if oc A k s = true ∧ T = s ||| 2 ^ k then oW A N s s else 0) n * G T else 0) (2 ^ N) = oS (fun k => if oc A k s = true then oW A N s s * G (s ||| 2 ^ k) else 0) n
  | 0, _ => oS_z (fun T _ => by
    by_cases q : s + 1 ≤ T
    · rw [if_pos q]
      exact Int.zero_mul _
    · rw [if_neg q])
  | n + 1, h => by
    show _ = oS (fun k => if oc A k s = true then oW A N s s * G (s ||| 2 ^ k) else 0) n + (if oc A n s = true then oW A N s s * G (s ||| 2 ^ n) else 0)
    rw [← oP_k (n := n) hs (by omega)]
    have e1 : (if oc A n s = true then oW A N s s * G (s ||| 2 ^ n) else 0) = oS (fun T => if T = s ||| 2 ^ n then (if oc A n s = true then oW A N s s * G T else 0) else 0) (2 ^ N) := (oS_o (f := fun T => if oc A n s = true then oW A N s s * G T else 0) (ob_up hs (by omega))).symm
    rw [e1, ← oS_a]
    refine oS_c (fun T _ => ?_)
    show (if s + 1 ≤ T then (oS (fun k => if oc A k s = true ∧ T = s ||| 2 ^ k then oW A N s s else 0) n + (if oc A n s = true ∧ T = s ||| 2 ^ n then oW A N s s else 0)) * G T else 0) = (if s + 1 ≤ T then oS (fun k => if oc A k s = true ∧ T = s ||| 2 ^ k then oW A N s s else 0) n * G T else 0) + (if T = s ||| 2 ^ n then (if oc A n s = true then oW A N s s * G T else 0) else 0)
    by_cases q1 : oc A n s = true
    · have h3 := ob_lt (oc_b q1)
      by_cases q2 : T = s ||| 2 ^ n
      · have hT : s + 1 ≤ T := by omega
        rw [if_pos hT, if_pos hT, if_pos (show oc A n s = true ∧ T = s ||| 2 ^ n from ⟨q1, q2⟩), if_pos q2, if_pos q1, Int.add_mul]
      · rw [if_neg (show ¬ (oc A n s = true ∧ T = s ||| 2 ^ n) from fun z => q2 z.2), if_neg q2, Int.add_zero, Int.add_zero]
    · rw [if_neg (show ¬ (oc A n s = true ∧ T = s ||| 2 ^ n) from fun z => q1 z.1), if_neg q1, Int.add_zero, ite_self, Int.add_zero]
theorem oP_s {G : Nat → Int} {s : Nat} (hs : s < 2 ^ N) : oP A N G (s + 1) + oW A N s s * G s = oP A N G s + oS (fun k => if oc A k s = true then oW A N s s * G (s ||| 2 ^ k) else 0) N := by
  unfold oP
  rw [← oP_k hs (Nat.le_refl N), ← oS_a, show oW A N s s * G s = oS (fun T => if T = s then oW A N s T * G T else 0) (2 ^ N) from (oS_o (f := fun T => oW A N s T * G T) hs).symm, ← oS_a]
  refine oS_c (fun T _ => ?_)
  show (if s + 1 ≤ T then (oW A N s T + oS (fun k => if oc A k s = true ∧ T = s ||| 2 ^ k then oW A N s s else 0) N) * G T else 0) + (if T = s then oW A N s T * G T else 0) = (if s ≤ T then oW A N s T * G T else 0) + (if s + 1 ≤ T then oS (fun k => if oc A k s = true ∧ T = s ||| 2 ^ k then oW A N s s else 0) N * G T else 0)
  by_cases q1 : T = s
  · rw [if_neg (by omega), if_pos q1, if_pos (by omega), if_neg (by omega)]
    omega
  · by_cases q2 : s + 1 ≤ T
    · rw [if_pos q2, if_neg q1, if_pos (by omega), if_pos q2, Int.add_mul]
      omega
    · rw [if_neg q2, if_neg q1, if_neg (by omega), if_neg q2]
theorem oP_0 {G : Nat → Int} (hN : 0 < 2 ^ N) : oP A N G 0 = G 0 := by
  unfold oP
  rw [show G 0 = oS (fun T => if T = 0 then G T else 0) (2 ^ N) from (oS_o (f := G) hN).symm]
  refine oS_c (fun T _ => ?_)
  show (if 0 ≤ T then (if T = 0 then 1 else 0) * G T else 0) = _
  rw [if_pos (Nat.zero_le T)]
  by_cases q : T = 0
  · rw [if_pos q, if_pos q, Int.one_mul]
  · rw [if_neg q, if_neg q, Int.zero_mul]
theorem oP_e {G : Nat → Int} {s : Nat} (hs : s + 1 = 2 ^ N) : oP A N G s = oW A N s s * G s := by
  unfold oP
  rw [show oW A N s s * G s = oS (fun T => if T = s then oW A N s T * G T else 0) (2 ^ N) from (oS_o (f := fun T => oW A N s T * G T) (by omega)).symm]
  refine oS_c (fun T hT => ?_)
  by_cases q : T = s
  · rw [if_pos (by omega), if_pos q]
  · rw [if_neg (by omega), if_neg q]
theorem oP_c (hN : 0 < 2 ^ N) : ∀ {s : Nat}, s < 2 ^ N → oP A N (oF A N) s = oF A N 0
  | 0, _ => oP_0 hN
  | s + 1, h => by
    have h1 := oP_s (A := A) (N := N) (G := oF A N) (s := s) (by omega)
    have h2 : oS (fun k => if oc A k s = true then oW A N s s * oF A N (s ||| 2 ^ k) else 0) N = oW A N s s * oF A N s := by
      rw [oF_s h, ← oS_m]
      refine oS_c (fun k _ => ?_)
      by_cases q : oc A k s = true
      · rw [if_pos q, if_pos q]
      · rw [if_neg q, if_neg q, Int.mul_zero]
    have h3 := oP_c hN (s := s) (by omega)
    rw [h2] at h1
    omega
/-- counted from the front and from the back: the same -/
theorem oW_F {s : Nat} (hs : s + 1 = 2 ^ N) : oW A N s s = oF A N 0 := by
  have h1 := oP_c (A := A) (N := N) (by omega) (s := s) (by omega)
  rw [oP_e hs, oF_1 hs, Int.mul_one] at h1
  exact h1
end PT
/-- one ahead of another one -/
def oA (A : Nat → Nat) (a b : Nat) : Nat → Nat := fun k => if k = b then A b ||| 2 ^ a else A k
def oQ (A : Nat → Nat) (N a b s : Nat) : Int := oS (fun t => if oc A a t = true ∧ t.testBit b = false then oW A N t t * oF A N (t ||| 2 ^ a) else 0) s
theorem oc_A {A : Nat → Nat} {a b k T : Nat} (h : k ≠ b ∨ T.testBit a = true) : oc (oA A a b) k T = oc A k T := by
  unfold oc oA
  by_cases e : k = b
  · subst e
    rw [if_pos rfl]
    have h1 : T.testBit a = true := by
      rcases h with h | h
      · exact absurd rfl h
      · exact h
    congr 1
    rw [Bool.eq_iff_iff, beq_iff_eq, beq_iff_eq]
    constructor
    · intro q
      refine Nat.eq_of_testBit_eq (fun j => ?_)
      have h2 := congrArg (fun x => x.testBit j) q
      simp only [Nat.testBit_and, Nat.testBit_or, Nat.testBit_two_pow] at h2 ⊢
      cases h3 : (A k).testBit j with
      | false => rfl
      | true =>
        rw [h3] at h2
        exact h2
    · intro q
      refine Nat.eq_of_testBit_eq (fun j => ?_)
      have h2 := congrArg (fun x => x.testBit j) q
      simp only [Nat.testBit_and, Nat.testBit_or, Nat.testBit_two_pow] at h2 ⊢
      by_cases e : a = j
      · subst e
        rw [h1, Bool.and_true]
      · rw [decide_eq_false e, Bool.or_false]
        exact h2
  · rw [if_neg e]
theorem oL_A {A : Nat → Nat} {N a b : Nat} : ∀ {m T : Nat}, T.testBit a = true → oL (oA A a b) N m T = oL A N m T
  | 0, _, _ => rfl
  | m + 1, T, h => by
    show (if T + 1 = 2 ^ N then 1 else oS (fun k => if oc (oA A a b) k T = true then oL (oA A a b) N m (T ||| 2 ^ k) else 0) N) = (if T + 1 = 2 ^ N then 1 else oS (fun k => if oc A k T = true then oL A N m (T ||| 2 ^ k) else 0) N)
    rw [oS_c (g := fun k => if oc A k T = true then oL A N m (T ||| 2 ^ k) else 0) (fun k _ => by rw [oc_A (Or.inr h), oL_A (m := m) (by rw [ob_t, h, Bool.true_or])])]
section PU
variable {A : Nat → Nat} {N a b : Nat}
def oG (A : Nat → Nat) (N a b T : Nat) : Int := if T.testBit a = true ∨ T.testBit b = true then 0 else oF (oA A a b) N T
theorem oG_s (hab : a ≠ b) (ha : a < N) {s : Nat} (hs : s + 1 < 2 ^ N) : oG A N a b s = oS (fun k => if oc A k s = true then oG A N a b (s ||| 2 ^ k) else 0) N + (if oc A a s = true ∧ s.testBit b = false then oF A N (s ||| 2 ^ a) else 0) := by
  by_cases q : s.testBit a = true ∨ s.testBit b = true
  · unfold oG
    rw [if_pos q, oS_z (fun k _ => ?_), if_neg (fun z => ?_)]
    · rfl
    · rcases q with q | q
      · rw [oc_b z.1] at q
        cases q
      · rw [z.2] at q
        cases q
    · rw [if_pos (c := (s ||| 2 ^ k).testBit a = true ∨ (s ||| 2 ^ k).testBit b = true) (by
        rcases q with q | q
        · exact Or.inl (by rw [ob_t, q, Bool.true_or])
        · exact Or.inr (by rw [ob_t, q, Bool.true_or])), ite_self]
  · have qa : s.testBit a = false := by
      cases h : s.testBit a with
      | false => rfl
      | true => exact absurd (Or.inl h) q
    have qb : s.testBit b = false := by
      cases h : s.testBit b with
      | false => rfl
      | true => exact absurd (Or.inr h) q
    have e1 : oG A N a b s = oF (oA A a b) N s := if_neg q
    rw [e1, oF_s hs, show (if oc A a s = true ∧ s.testBit b = false then oF A N (s ||| 2 ^ a) else 0) = oS (fun k => if k = a then (if oc A k s = true ∧ s.testBit b = false then oF A N (s ||| 2 ^ k) else 0) else 0) N from (oS_o (f := fun k => if oc A k s = true ∧ s.testBit b = false then oF A N (s ||| 2 ^ k) else 0) ha).symm, ← oS_a]
    refine oS_c (fun k _ => ?_)
    show _ = (if oc A k s = true then oG A N a b (s ||| 2 ^ k) else 0) + (if k = a then (if oc A k s = true ∧ s.testBit b = false then oF A N (s ||| 2 ^ k) else 0) else 0)
    by_cases e2 : k = a
    · subst e2
      rw [oc_A (Or.inl hab), if_pos rfl]
      have e3 : oG A N k b (s ||| 2 ^ k) = 0 := if_pos (Or.inl (by rw [ob_t, decide_eq_true rfl, Bool.or_true]))
      have e4 : oF (oA A k b) N (s ||| 2 ^ k) = oF A N (s ||| 2 ^ k) := oL_A (by rw [ob_t, decide_eq_true rfl, Bool.or_true])
      rw [e3, e4, ite_self, Int.zero_add]
      by_cases e5 : oc A k s = true
      · rw [if_pos e5, if_pos ⟨e5, qb⟩]
      · rw [if_neg e5, if_neg (fun z => e5 z.1)]
    · rw [if_neg e2, Int.add_zero]
      by_cases e3 : k = b
      · subst e3
        have e4 : oG A N a k (s ||| 2 ^ k) = 0 := if_pos (Or.inr (by rw [ob_t, decide_eq_true rfl, Bool.or_true]))
        have e5 : ¬ oc (oA A a k) k s = true := fun z => by
          unfold oc oA at z
          rw [if_pos rfl, Bool.and_eq_true, beq_iff_eq] at z
          have h2 := congrArg (fun x => x.testBit a) z.2
          have h3 : (((A k ||| 2 ^ a) &&& s).testBit a) = (A k ||| 2 ^ a).testBit a := h2
          rw [Nat.testBit_and, qa, Bool.and_false, Nat.testBit_or, Nat.testBit_two_pow_self, Bool.or_true] at h3
          cases h3
        rw [e4, ite_self, if_neg e5]
      · rw [oc_A (Or.inl e3)]
        have e4 : oG A N a b (s ||| 2 ^ k) = oF (oA A a b) N (s ||| 2 ^ k) := if_neg (fun z => by
          rw [ob_t, ob_t, qa, qb, decide_eq_false e2, decide_eq_false e3] at z
          rcases z with z | z <;> cases z)
        rw [e4]
theorem oQ_c (hab : a ≠ b) (ha : a < N) : ∀ {s : Nat}, s < 2 ^ N → oP A N (oG A N a b) s + oQ A N a b s = oF (oA A a b) N 0
  | 0, h => by
    rw [oP_0 h]
    show oG A N a b 0 + 0 = _
    rw [Int.add_zero]
    exact if_neg (fun z => by
      rw [Nat.zero_testBit, Nat.zero_testBit] at z
      rcases z with z | z <;> cases z)
  | s + 1, h => by
    have h1 := oP_s (A := A) (N := N) (G := oG A N a b) (s := s) (by omega)
    have h3 := oQ_c hab ha (s := s) (by omega)
    have h4 : oQ A N a b (s + 1) = oQ A N a b s + (if oc A a s = true ∧ s.testBit b = false then oW A N s s * oF A N (s ||| 2 ^ a) else 0) := rfl
    have h5 : oW A N s s * oG A N a b s = oS (fun k => if oc A k s = true then oW A N s s * oG A N a b (s ||| 2 ^ k) else 0) N + (if oc A a s = true ∧ s.testBit b = false then oW A N s s * oF A N (s ||| 2 ^ a) else 0) := by
      rw [oG_s hab ha h, Int.mul_add, ← oS_m]
      congr 1
      · refine oS_c (fun k _ => ?_)
        by_cases q : oc A k s = true
        · rw [if_pos q, if_pos q]
        · rw [if_neg q, if_neg q, Int.mul_zero]
      · by_cases q : oc A a s = true ∧ s.testBit b = false
        · rw [if_pos q, if_pos q]
        · rw [if_neg q, if_neg q, Int.mul_zero]
    rw [h4]
    omega
/-- how many have a ahead of b -/
theorem oQ_F (hab : a ≠ b) (ha : a < N) {s : Nat} (hs : s + 1 = 2 ^ N) : oQ A N a b s = oF (oA A a b) N 0 := by
  have h1 := oQ_c (A := A) (b := b) hab ha (s := s) (by omega)
  have h2 : oG A N a b s = 0 := if_pos (Or.inl (by
    rw [show s = 2 ^ N - 1 by omega, Nat.testBit_two_pow_sub_one, decide_eq_true ha]))
  rw [oP_e hs, h2, Int.mul_zero, Int.zero_add] at h1
  exact h1
end PU
/-- how many are not in it -/
def oz (S : Nat) : Nat → Nat
  | 0 => 0
  | n + 1 => oz S n + (if S.testBit n = true then 0 else 1)
def of_ : Nat → Int
  | 0 => 1
  | n + 1 => ((n : Int) + 1) * of_ n
theorem of_p : ∀ n, 1 ≤ of_ n
  | 0 => Int.le_refl _
  | n + 1 => by
    have h1 := of_p n
    have h2 : 1 * 1 ≤ ((n : Int) + 1) * of_ n := Int.mul_le_mul (by omega) h1 (by decide) (by omega)
    exact h2
theorem of_l {n : Nat} : of_ n ≤ of_ (n + 1) := by
  have h1 := of_p n
  have h2 : 1 * of_ n ≤ ((n : Int) + 1) * of_ n := Int.mul_le_mul_of_nonneg_right (by omega) (by omega)
  rw [Int.one_mul] at h2
  exact h2
theorem of_m {n : Nat} : ∀ {m : Nat}, n ≤ m → of_ n ≤ of_ m
  | 0, h => by rw [show n = 0 by omega]; exact Int.le_refl _
  | m + 1, h => by
    by_cases e : n = m + 1
    · rw [e]; exact Int.le_refl _
    · exact Int.le_trans (of_m (m := m) (by omega)) of_l
theorem oz_k {S k : Nat} (h : S.testBit k = false) : ∀ {n : Nat}, (n ≤ k → oz (S ||| 2 ^ k) n = oz S n) ∧ (k < n → oz (S ||| 2 ^ k) n + 1 = oz S n)
  | 0 => ⟨fun _ => rfl, fun z => absurd z (Nat.not_lt_zero _)⟩
  | n + 1 => by
    have h1 := oz_k h (n := n)
    constructor
    · intro z
      show oz (S ||| 2 ^ k) n + (if (S ||| 2 ^ k).testBit n = true then 0 else 1) = oz S n + (if S.testBit n = true then 0 else 1)
      rw [h1.1 (by omega), ob_t, decide_eq_false (by omega), Bool.or_false]
    · intro z
      show oz (S ||| 2 ^ k) n + (if (S ||| 2 ^ k).testBit n = true then 0 else 1) + 1 = oz S n + (if S.testBit n = true then 0 else 1)
      by_cases e : k = n
      · subst e
        rw [h1.1 (Nat.le_refl _), ob_t, decide_eq_true rfl, Bool.or_true, if_pos rfl, h, if_neg (by decide)]
      · have h2 := h1.2 (by omega)
        rw [ob_t, decide_eq_false e, Bool.or_false]
        omega
theorem oz_s {S : Nat} {c : Int} : ∀ {n : Nat}, oS (fun k => if S.testBit k = true then 0 else c) n = (oz S n : Int) * c
  | 0 => (Int.zero_mul c).symm
  | n + 1 => by
    show oS (fun k => if S.testBit k = true then 0 else c) n + (if S.testBit n = true then 0 else c) = ((oz S n + (if S.testBit n = true then 0 else 1) : Nat) : Int) * c
    rw [oz_s (n := n)]
    by_cases e : S.testBit n = true
    · rw [if_pos e, if_pos e, Int.add_zero, Nat.add_zero]
    · rw [if_neg e, if_neg e, Int.natCast_add, Int.add_mul]
      congr 1
      exact (Int.one_mul c).symm
theorem oz_n {S : Nat} : ∀ {n : Nat}, oz S n ≤ n
  | 0 => Nat.le_refl _
  | n + 1 => by
    have := oz_n (S := S) (n := n)
    show oz S n + (if S.testBit n = true then 0 else 1) ≤ n + 1
    by_cases e : S.testBit n = true
    · rw [if_pos e]; omega
    · rw [if_neg e]; omega
theorem oL_b {A : Nat → Nat} {N : Nat} : ∀ {m S : Nat}, 0 ≤ oL A N m S ∧ oL A N m S ≤ of_ (oz S N)
  | 0, S => by
    have h1 := of_p (oz S N)
    show 0 ≤ (if S + 1 = 2 ^ N then (1 : Int) else 0) ∧ (if S + 1 = 2 ^ N then (1 : Int) else 0) ≤ of_ (oz S N)
    by_cases e : S + 1 = 2 ^ N
    · rw [if_pos e]; omega
    · rw [if_neg e]; omega
  | m + 1, S => by
    have h1 := of_p (oz S N)
    show 0 ≤ (if S + 1 = 2 ^ N then (1 : Int) else oS (fun k => if oc A k S = true then oL A N m (S ||| 2 ^ k) else 0) N) ∧ (if S + 1 = 2 ^ N then (1 : Int) else oS (fun k => if oc A k S = true then oL A N m (S ||| 2 ^ k) else 0) N) ≤ of_ (oz S N)
    by_cases e : S + 1 = 2 ^ N
    · rw [if_pos e]; omega
    · rw [if_neg e]
      refine ⟨oS_n (fun k _ => ?_), ?_⟩
      · by_cases q : oc A k S = true
        · rw [if_pos q]; exact (oL_b (m := m)).1
        · rw [if_neg q]; exact Int.le_refl _
      · refine Int.le_trans (oS_le (g := fun k => if S.testBit k = true then 0 else of_ (oz S N - 1)) (fun k hk => ?_)) ?_
        · by_cases q : oc A k S = true
          · have h2 := oc_b q
            have h3 := (oz_k h2 (n := N)).2 hk
            rw [if_pos q, if_neg (by rw [h2]; decide), show oz S N - 1 = oz (S ||| 2 ^ k) N by omega]
            exact (oL_b (m := m)).2
          · rw [if_neg q]
            have h4 := of_p (oz S N - 1)
            by_cases e2 : S.testBit k = true
            · rw [if_pos e2]; exact Int.le_refl _
            · rw [if_neg e2]; omega
        · rw [oz_s]
          by_cases e3 : oz S N = 0
          · rw [e3]
            show (0 : Int) * _ ≤ 1
            rw [Int.zero_mul]
            decide
          · obtain ⟨x, hx⟩ : ∃ x, oz S N = x + 1 := ⟨oz S N - 1, by omega⟩
            rw [hx, Nat.add_sub_cancel]
            exact Int.le_refl _
theorem oF_b {A : Nat → Nat} {N S : Nat} (hN : N ≤ 12) : 0 ≤ oF A N S ∧ oF A N S ≤ 479001600 := by
  have h1 := oL_b (A := A) (N := N) (m := 2 ^ N) (S := S)
  have h2 := of_m (Nat.le_trans (oz_n (S := S) (n := N)) hN)
  have h3 : of_ 12 = 479001600 := by decide
  unfold oF
  omega
