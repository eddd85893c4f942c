/-! rows of turns, purely: the search of all rows and the sets of ways come to the same -/
def cpW (a b : Nat) : Nat := (if a / 4 = b / 4 then 0 else 4) + (b % 4 + (if 4 ≤ b then 4 - a % 4 else a % 4)) % 4
def bkW (a : Nat) : Nat := if 4 ≤ a then a else (4 - a % 4) % 4
def tbW (a b : Nat) : Nat := cpW (bkW a) b
theorem bkW_l : ∀ a, a < 8 → bkW a < 8 ∧ (4 ≤ a → bkW a = a) := by decide +kernel
theorem cpW_l : ∀ a, a < 8 → ∀ b, b < 8 → cpW a b < 8 := by decide +kernel
theorem cpW_0 : ∀ a, a < 8 → cpW 0 a = a ∧ cpW a 0 = a := by decide +kernel
theorem tbW_c : ∀ a, a < 8 → ∀ b, b < 8 → tbW a b < 8 ∧ cpW a (tbW a b) = b ∧ (a ≠ b → 1 ≤ tbW a b) := by decide +kernel
theorem tbW_t : ∀ a, a < 8 → ∀ b, b < 8 → tbW a (cpW a b) = b := by decide +kernel
theorem cpW_a : ∀ a, a < 8 → ∀ b, b < 8 → ∀ e, e < 8 → cpW (cpW a b) e = cpW a (cpW b e) := by decide +kernel
/-- still not right: no way of the set puts it right -/
def nRt (rt : Nat → Bool) (set w : Nat) : Bool := (List.range 8).all (fun v => !(set.testBit v && rt (cpW w v)))
theorem nRt_y {rt : Nat → Bool} {set w : Nat} : nRt rt set w = true ↔ ∀ v, v < 8 → set.testBit v = true → rt (cpW w v) = false := by
  unfold nRt
  rw [List.all_eq_true]
  constructor
  · intro h v hv ht
    have := h v (List.mem_range.mpr hv)
    rw [ht, Bool.true_and, Bool.not_eq_true'] at this
    exact this
  · intro h v hv
    rw [Bool.not_eq_true']
    cases q : set.testBit v with
    | true => rw [h v (List.mem_range.mp hv) q]; rfl
    | false => rfl
theorem tb_or (set v w : Nat) : (set ||| 2 ^ v).testBit w = (set.testBit w || decide (v = w)) := by
  rw [Nat.testBit_or, Nat.testBit_two_pow]
theorem nRt_o {rt : Nat → Bool} {set v w : Nat} (hv : v < 8) : nRt rt (set ||| 2 ^ v) w = (nRt rt set w && !rt (cpW w v)) := by
  apply Bool.eq_iff_iff.mpr
  rw [Bool.and_eq_true, Bool.not_eq_true', nRt_y, nRt_y]
  constructor
  · intro h
    exact ⟨fun u hu ht => h u hu (by rw [tb_or, ht]; rfl), h v hv (by rw [tb_or]; simp)⟩
  · intro h u hu ht
    rw [tb_or, Bool.or_eq_true] at ht
    rcases ht with ht | ht
    · exact h.1 u hu ht
    · rw [← of_decide_eq_true ht]
      exact h.2
theorem nRt_1 {rt : Nat → Bool} {w : Nat} (hw : w < 8) : nRt rt 1 w = !rt w := by
  have e := (cpW_0 w hw).2
  apply Bool.eq_iff_iff.mpr
  rw [nRt_y, Bool.not_eq_true']
  constructor
  · intro h
    have := h 0 (by decide) rfl
    rw [e] at this
    exact this
  · intro h u hu ht
    have : ∀ u, u < 8 → Nat.testBit 1 u = true → u = 0 := by decide
    rw [this u hu ht, e]
    exact h
/-- how often it is still not right -/
def oO (h : Nat → Int) (rt : Nat → Bool) (set : Nat) : Int := oS (fun w => nRt rt set w) h 8
theorem oO_b {h : Nat → Int} {rt : Nat → Bool} (hh : ∀ w, 0 ≤ h w ∧ h w ≤ 99) (set : Nat) : 0 ≤ oO h rt set ∧ oO h rt set ≤ 792 := by
  have := oS_b (b := fun w => nRt rt set w) (by decide : (0 : Int) ≤ 99) hh 8
  unfold oO
  omega
abbrev rO : Type := Option (Int × List Nat)
/-- the first least one -/
def mB : rO → rO → rO
  | none, y => y
  | some x, none => some x
  | some x, some y => if y.1 < x.1 then some y else some x
theorem mB_n (x : rO) : mB x none = x := by cases x <;> rfl
theorem mB_0 (x : rO) : mB none x = x := rfl
theorem mB_a (x y z : rO) : mB (mB x y) z = mB x (mB y z) := by
  cases x with
  | none => rfl
  | some x => cases y with
    | none => rfl
    | some y => cases z with
      | none => rw [mB_n, mB_n]
      | some z =>
        by_cases a : y.1 < x.1 <;> by_cases b : z.1 < y.1 <;> by_cases k : z.1 < x.1 <;> simp [mB, a, b, k] <;> omega
def cM (v : Int) (pre : List Nat) (x : rO) : rO := x.map (fun p => (v + p.1, pre ++ p.2))
theorem cM_0 (x : rO) : cM 0 [] x = x := by
  cases x with
  | none => rfl
  | some p => show some (0 + p.1, [] ++ p.2) = _; rw [Int.zero_add]; rfl
theorem cM_m (v : Int) (pre : List Nat) (x y : rO) : cM v pre (mB x y) = mB (cM v pre x) (cM v pre y) := by
  cases x with
  | none => rfl
  | some x => cases y with
    | none => rfl
    | some y =>
      by_cases a : y.1 < x.1
      · have a' : v + y.1 < v + x.1 := by omega
        simp [mB, cM, a]
      · have a' : ¬ v + y.1 < v + x.1 := by omega
        simp [mB, cM, a]
theorem cM_c (v v' : Int) (pre pre' : List Nat) (x : rO) : cM v pre (cM v' pre' x) = cM (v + v') (pre ++ pre') x := by
  cases x with
  | none => rfl
  | some p => show some (v + (v' + p.1), pre ++ (pre' ++ p.2)) = some (v + v' + p.1, (pre ++ pre') ++ p.2); rw [Int.add_assoc, List.append_assoc]
section
variable (h tk : Nat → Int) (rt : Nat → Bool)
/-- a turn t, and what follows it -/
def gC (f : Nat → Nat → rO) (set last t : Nat) : rO := if set.testBit (cpW last t) then none else cM (oO h rt set * tk t) [t] (f (set ||| 2 ^ cpW last t) (cpW last t))
/-- the last j turns of the seven -/
def gR (f : Nat → Nat → rO) (set last : Nat) : Nat → rO
  | 0 => none
  | j + 1 => mB (gC h tk rt f set last (7 - j)) (gR f set last j)
/-- the first least row from a set and its last one -/
def gG : Nat → Nat → Nat → rO
  | 0, _, _ => some (0, [])
  | n + 1, set, last => gR h tk rt (gG n) set last 7
/-- the sets and the ways that a row comes to -/
def lSw (ρ : Nat → Nat) : Nat → Nat
  | 0 => 0
  | k + 1 => cpW (lSw ρ k) (ρ k)
def sS (ρ : Nat → Nat) : Nat → Nat
  | 0 => 1
  | k + 1 => sS ρ k ||| 2 ^ lSw ρ (k + 1)
/-- what the first k turns of a row cost -/
def cK (ρ : Nat → Nat) : Nat → Int
  | 0 => 0
  | k + 1 => cK ρ k + oO h rt (sS ρ k) * tk (ρ k)
def pK (ρ : Nat → Nat) : Nat → List Nat
  | 0 => []
  | k + 1 => pK ρ k ++ [ρ k]
/-- the seconds till it is right, of one way -/
def iN (ρ : Nat → Nat) (w : Nat) : Nat → Int
  | 0 => 0
  | k + 1 => iN ρ w k + (if nRt rt (sS ρ k) w then tk (ρ k) else 0)
end
section
variable {h tk : Nat → Int} {rt : Nat → Bool}
theorem lS_e {ρ ρ' : Nat → Nat} : ∀ k : Nat, (∀ i, i < k → ρ' i = ρ i) → lSw ρ' k = lSw ρ k := by
  intro k
  induction k with
  | zero => intro _; rfl
  | succ k ih =>
    intro e
    show cpW _ _ = cpW _ _
    rw [ih (fun i hi => e i (by omega)), e k (by omega)]
theorem sS_e {ρ ρ' : Nat → Nat} : ∀ k : Nat, (∀ i, i < k → ρ' i = ρ i) → sS ρ' k = sS ρ k := by
  intro k
  induction k with
  | zero => intro _; rfl
  | succ k ih =>
    intro e
    show _ ||| 2 ^ _ = _ ||| 2 ^ _
    rw [ih (fun i hi => e i (by omega)), lS_e (k + 1) e]
theorem cK_e {ρ ρ' : Nat → Nat} : ∀ k : Nat, (∀ i, i < k → ρ' i = ρ i) → cK h tk rt ρ' k = cK h tk rt ρ k := by
  intro k
  induction k with
  | zero => intro _; rfl
  | succ k ih =>
    intro e
    show _ + oO h rt _ * tk _ = _ + oO h rt _ * tk _
    rw [ih (fun i hi => e i (by omega)), sS_e k (fun i hi => e i (by omega)), e k (by omega)]
theorem pK_e {ρ ρ' : Nat → Nat} : ∀ k : Nat, (∀ i, i < k → ρ' i = ρ i) → pK ρ' k = pK ρ k := by
  intro k
  induction k with
  | zero => intro _; rfl
  | succ k ih =>
    intro e
    show _ ++ [_] = _ ++ [_]
    rw [ih (fun i hi => e i (by omega)), e k (by omega)]
theorem pK_l {ρ : Nat → Nat} : ∀ k : Nat, (pK ρ k).length = k ∧ ∀ i, i < k → (pK ρ k)[i]? = some (ρ i) := by
  intro k
  induction k with
  | zero => exact ⟨rfl, fun i hi => absurd hi (Nat.not_lt_zero i)⟩
  | succ k ih =>
    refine ⟨by show (_ ++ [_]).length = _; rw [List.length_append, ih.1]; rfl, fun i hi => ?_⟩
    show (pK ρ k ++ [ρ k])[i]? = _
    by_cases e : i = k
    · subst e
      rw [List.getElem?_append_right (by rw [ih.1]; exact Nat.le_refl _), ih.1, Nat.sub_self]
      rfl
    · rw [List.getElem?_append_left (by rw [ih.1]; omega)]
      exact ih.2 i (by omega)
theorem lS_l {ρ : Nat → Nat} (hρ : ∀ i, ρ i < 8) : ∀ k : Nat, lSw ρ k < 8 := by
  intro k
  induction k with
  | zero => show 0 < 8; omega
  | succ k ih => exact cpW_l _ ih _ (hρ k)
theorem iN_s {ρ : Nat → Nat} {w k : Nat} (hz : ∀ i, k ≤ i → nRt rt (sS ρ i) w = false) : ∀ r : Nat, iN tk rt ρ w (k + r) = iN tk rt ρ w k := by
  intro r
  induction r with
  | zero => rfl
  | succ r ih =>
    show iN tk rt ρ w (k + r) + (if nRt rt (sS ρ (k + r)) w then tk (ρ (k + r)) else 0) = _
    rw [ih, hz (k + r) (by omega)]
    simp
theorem nRt_m {ρ : Nat → Nat} (hρ : ∀ i, ρ i < 8) {w k : Nat} (hz : nRt rt (sS ρ k) w = false) : ∀ r : Nat, nRt rt (sS ρ (k + r)) w = false := by
  intro r
  induction r with
  | zero => exact hz
  | succ r ih =>
    show nRt rt (sS ρ (k + r) ||| 2 ^ lSw ρ (k + r + 1)) w = false
    rw [nRt_o (lS_l hρ _), ih]
    rfl
/-- it is right behind k turns -/
theorem iN_r {ρ : Nat → Nat} (hρ : ∀ i, ρ i < 8) {w k n : Nat} (hk : k ≤ n) (hz : nRt rt (sS ρ k) w = false) : iN tk rt ρ w n = iN tk rt ρ w k := by
  obtain ⟨r, rfl⟩ : ∃ r, n = k + r := ⟨n - k, by omega⟩
  refine iN_s (fun i hi => ?_) r
  obtain ⟨j, rfl⟩ : ∃ j, i = k + j := ⟨i - k, by omega⟩
  exact nRt_m hρ hz j
/-- sums over the first ways -/
def wSm (h x : Nat → Int) : Nat → Int
  | 0 => 0
  | k + 1 => wSm h x k + h k * x k
theorem wS_0 {x : Nat → Int} (hx : ∀ w, x w = 0) : ∀ k : Nat, wSm h x k = 0 := by
  intro k
  induction k with
  | zero => rfl
  | succ k ih => show _ + h k * x k = 0; rw [ih, hx, Int.mul_zero]; rfl
theorem wS_s {x : Nat → Int} {b : Nat → Bool} {t : Int} : ∀ k : Nat, wSm h (fun w => x w + (if b w then t else 0)) k = wSm h x k + oS b h k * t := by
  intro k
  induction k with
  | zero => show (0 : Int) = 0 + 0 * t; omega
  | succ k ih =>
    show wSm h (fun w => x w + (if b w then t else 0)) k + h k * (x k + (if b k then t else 0)) = wSm h x k + h k * x k + (oS b h k + (if b k then h k else 0)) * t
    rw [ih]
    cases b k
    · simp
      omega
    · simp [Int.add_mul, Int.mul_add]
      omega
theorem wS_c {ρ : Nat → Nat} : ∀ k : Nat, wSm h (fun w => iN tk rt ρ w k) 8 = cK h tk rt ρ k := by
  intro k
  induction k with
  | zero => exact wS_0 (fun w => rfl) 8
  | succ k ih =>
    show wSm h (fun w => iN tk rt ρ w k + (if nRt rt (sS ρ k) w then tk (ρ k) else 0)) 8 = cK h tk rt ρ k + oO h rt (sS ρ k) * tk (ρ k)
    rw [wS_s, ih]
    rfl
theorem iN_b {ρ : Nat → Nat} {w : Nat} (ht : ∀ t, 0 ≤ tk t ∧ tk t ≤ 99) : ∀ k : Nat, 0 ≤ iN tk rt ρ w k ∧ iN tk rt ρ w k ≤ 99 * k := by
  intro k
  induction k with
  | zero => exact ⟨Int.le_refl _, Int.le_refl _⟩
  | succ k ih =>
    have := ht (ρ k)
    unfold iN
    split <;> omega
theorem mul_b {a b A B : Int} (ha : 0 ≤ a ∧ a ≤ A) (hb : 0 ≤ b ∧ b ≤ B) : 0 ≤ a * b ∧ a * b ≤ A * B := ⟨Int.mul_nonneg ha.1 hb.1, Int.mul_le_mul ha.2 hb.2 hb.1 (by omega)⟩
theorem wS_b {x : Nat → Int} (hh : ∀ w, 0 ≤ h w ∧ h w ≤ 99) (hx : ∀ w, 0 ≤ x w ∧ x w ≤ 693) : ∀ k : Nat, 0 ≤ wSm h x k ∧ wSm h x k ≤ 68607 * k := by
  intro k
  induction k with
  | zero => exact ⟨Int.le_refl _, Int.le_refl _⟩
  | succ k ih =>
    have := mul_b (hh k) (hx k)
    unfold wSm
    omega
/-- the search: a turn whose way was come to already -/
theorem gR_in {f : Nat → Nat → rO} {set last j : Nat} (hc : set.testBit (cpW last (7 - j)) = true) : gR h tk rt f set last (j + 1) = gR h tk rt f set last j := by
  show mB (gC h tk rt f set last (7 - j)) _ = _
  unfold gC
  rw [if_pos hc]
  rfl
theorem gR_out {f : Nat → Nat → rO} {set last j : Nat} (hc : set.testBit (cpW last (7 - j)) = false) (v : Int) (pre : List Nat) : cM v pre (gR h tk rt f set last (j + 1)) = mB (cM (v + oO h rt set * tk (7 - j)) (pre ++ [7 - j]) (f (set ||| 2 ^ cpW last (7 - j)) (cpW last (7 - j)))) (cM v pre (gR h tk rt f set last j)) := by
  show cM v pre (mB (gC h tk rt f set last (7 - j)) _) = _
  rw [cM_m]
  unfold gC
  rw [if_neg (by rw [hc]; exact Bool.false_ne_true), cM_c]
/-- how many ways are not come to -/
def cntW (set : Nat) : Nat := ((List.range 8).filter (fun v => !set.testBit v)).length
theorem cnt_o : ∀ set, set < 256 → ∀ v, v < 8 → set.testBit v = false → cntW (set ||| 2 ^ v) + 1 = cntW set ∧ set ||| 2 ^ v < 256 ∧ set < set ||| 2 ^ v ∧ (set ||| 2 ^ v) % 2 = (if v = 0 then 1 else set % 2) := by decide +kernel
theorem cnt_p : ∀ set, set < 256 → (cntW set = 0 → set = 255) ∧ (cntW set ≠ 0 → ∃ v, v < 8 ∧ set.testBit v = false) := by decide +kernel
/-- what is kept of a least one -/
theorem gR_m {f : Nat → Nat → rO} {set last : Nat} : ∀ j : Nat, j ≤ 7 → (gR h tk rt f set last j = none ∧ ∀ t, 7 < t + j → t ≤ 7 → gC h tk rt f set last t = none) ∨ ∃ (v : Int) (row : List Nat) (t : Nat), gR h tk rt f set last j = some (v, row) ∧ 7 < t + j ∧ t ≤ 7 ∧ gC h tk rt f set last t = some (v, row) ∧ (∀ t', 7 < t' + j → t' ≤ 7 → ∀ p, gC h tk rt f set last t' = some p → v ≤ p.1) ∧ ∀ t', 7 < t' + j → t' < t → ∀ p, gC h tk rt f set last t' = some p → v < p.1 := by
  intro j
  induction j with
  | zero => intro _; exact Or.inl ⟨rfl, fun t h1 h2 => by omega⟩
  | succ j ih =>
    intro hj
    have ih := ih (by omega)
    have e : gR h tk rt f set last (j + 1) = mB (gC h tk rt f set last (7 - j)) (gR h tk rt f set last j) := rfl
    cases q : gC h tk rt f set last (7 - j) with
    | none =>
      rw [e, q, mB_0]
      rcases ih with ⟨i1, i2⟩ | ⟨v, row, t, i1, i2, i3, i4, i5, i6⟩
      · refine Or.inl ⟨i1, fun t h1 h2 => ?_⟩
        by_cases z : t = 7 - j
        · rw [z]; exact q
        · exact i2 t (by omega) h2
      · refine Or.inr ⟨v, row, t, i1, by omega, i3, i4, fun t' h1 h2 p hp => ?_, fun t' h1 h2 p hp => ?_⟩
        · by_cases z : t' = 7 - j
          · rw [z, q] at hp; cases hp
          · exact i5 t' (by omega) h2 p hp
        · by_cases z : t' = 7 - j
          · rw [z, q] at hp; cases hp
          · exact i6 t' (by omega) h2 p hp
    | some x =>
      rw [e, q]
      rcases ih with ⟨i1, i2⟩ | ⟨v, row, t, i1, i2, i3, i4, i5, i6⟩
      · refine Or.inr ⟨x.1, x.2, 7 - j, by rw [i1]; rfl, by omega, by omega, q, fun t' h1 h2 p hp => ?_, fun t' h1 h2 p hp => by omega⟩
        by_cases z : t' = 7 - j
        · rw [z, q] at hp; cases hp; exact Int.le_refl _
        · rw [i2 t' (by omega) h2] at hp; cases hp
      · rw [i1]
        by_cases w : v < x.1
        · refine Or.inr ⟨v, row, t, by show (if v < x.1 then _ else _) = _; rw [if_pos w], by omega, i3, i4, fun t' h1 h2 p hp => ?_, fun t' h1 h2 p hp => ?_⟩
          · by_cases z : t' = 7 - j
            · rw [z, q] at hp; cases hp; omega
            · exact i5 t' (by omega) h2 p hp
          · by_cases z : t' = 7 - j
            · rw [z, q] at hp; cases hp; exact w
            · exact i6 t' (by omega) h2 p hp
        · refine Or.inr ⟨x.1, x.2, 7 - j, by show (if v < x.1 then _ else _) = _; rw [if_neg w], by omega, by omega, q, fun t' h1 h2 p hp => ?_, fun t' h1 h2 p hp => by omega⟩
          by_cases z : t' = 7 - j
          · rw [z, q] at hp; cases hp; exact Int.le_refl _
          · have := i5 t' (by omega) h2 p hp
            omega
/-- the value and the row of a set -/
def gV (h tk : Nat → Int) (rt : Nat → Bool) (set last : Nat) : Int := match gG h tk rt (cntW set) set last with
  | some p => p.1
  | none => 0
def gW (h tk : Nat → Int) (rt : Nat → Bool) (set last : Nat) : List Nat := match gG h tk rt (cntW set) set last with
  | some p => p.2
  | none => []
/-- what a turn costs with all that follows -/
def gT (h tk : Nat → Int) (rt : Nat → Bool) (set last next : Nat) : Int := oO h rt set * tk (tbW last next) + gV h tk rt (set ||| 2 ^ next) next
theorem gG_s (hh : ∀ w, 0 ≤ h w ∧ h w ≤ 99) (ht : ∀ t, 0 ≤ tk t ∧ tk t ≤ 99) : ∀ (n set last : Nat), set < 256 → last < 8 → set.testBit last = true → cntW set = n → gG h tk rt n set last = some (gV h tk rt set last, gW h tk rt set last) ∧ (0 ≤ gV h tk rt set last ∧ gV h tk rt set last ≤ 78408 * n) ∧ (gW h tk rt set last).length = n ∧ (n = 0 → gV h tk rt set last = 0) ∧ (n ≠ 0 → (∀ v, v < 8 → set.testBit v = false → gV h tk rt set last ≤ gT h tk rt set last v) ∧ ∃ t, 1 ≤ t ∧ t ≤ 7 ∧ set.testBit (cpW last t) = false ∧ gV h tk rt set last = gT h tk rt set last (cpW last t) ∧ gW h tk rt set last = t :: gW h tk rt (set ||| 2 ^ cpW last t) (cpW last t) ∧ ∀ t', 1 ≤ t' → t' < t → set.testBit (cpW last t') = false → gV h tk rt set last < gT h tk rt set last (cpW last t')) := by
  intro n
  induction n with
  | zero =>
    intro set last hs hl hb hc
    have e : gG h tk rt (cntW set) set last = some (0, []) := by rw [hc]; rfl
    have ev : gV h tk rt set last = 0 := by unfold gV; rw [e]
    have ew : gW h tk rt set last = [] := by unfold gW; rw [e]
    rw [ev, ew]
    exact ⟨rfl, ⟨by omega, by omega⟩, rfl, fun _ => rfl, fun z => absurd rfl z⟩
  | succ n ih =>
    intro set last hs hl hb hc
    have sub : ∀ t, t ≤ 7 → set.testBit (cpW last t) = false → gC h tk rt (gG h tk rt n) set last t = some (gT h tk rt set last (cpW last t), t :: gW h tk rt (set ||| 2 ^ cpW last t) (cpW last t)) ∧ (0 ≤ gT h tk rt set last (cpW last t) ∧ gT h tk rt set last (cpW last t) ≤ 78408 * (n + 1 : Nat)) ∧ (gW h tk rt (set ||| 2 ^ cpW last t) (cpW last t)).length = n := by
      intro t h7 hf
      have hn := cpW_l last hl t (by omega)
      obtain ⟨c1, c2, -, -⟩ := cnt_o set hs _ hn hf
      obtain ⟨i1, i2, i3, -, -⟩ := ih (set ||| 2 ^ cpW last t) (cpW last t) c2 hn (by rw [tb_or]; simp) (by omega)
      have et := tbW_t last hl t (by omega)
      refine ⟨?_, ?_, i3⟩
      · unfold gC
        rw [if_neg (by rw [hf]; exact Bool.false_ne_true), i1]
        unfold gT
        rw [et]
        rfl
      · unfold gT
        rw [et]
        have := mul_b (oO_b (rt := rt) hh set) (ht t)
        omega
    have no : ∀ t, set.testBit (cpW last t) = true → gC h tk rt (gG h tk rt n) set last t = none := fun t z => by
      unfold gC
      rw [if_pos z]
    have eg : gG h tk rt (cntW set) set last = gR h tk rt (gG h tk rt n) set last 7 := by rw [hc]; rfl
    obtain ⟨v0, hv0, hf0⟩ := (cnt_p set hs).2 (by omega)
    have ne0 : last ≠ v0 := fun z => by rw [z, hf0] at hb; cases hb
    obtain ⟨b1, b2, b3⟩ := tbW_c last hl v0 hv0
    rcases gR_m (h := h) (tk := tk) (rt := rt) (f := gG h tk rt n) (set := set) (last := last) 7 (Nat.le_refl _) with ⟨i1, i2⟩ | ⟨v, row, t, i1, i2, i3, i4, i5, i6⟩
    · exfalso
      have := i2 (tbW last v0) (by have := b3 ne0; omega) (by omega)
      rw [(sub _ (by omega) (by rw [b2]; exact hf0)).1] at this
      cases this
    · have hf : set.testBit (cpW last t) = false := by
        cases z : set.testBit (cpW last t) with
        | false => rfl
        | true => rw [no t z] at i4; cases i4
      obtain ⟨s1, s2, s3⟩ := sub t i3 hf
      have e2 := Option.some.inj (i4.symm.trans s1)
      have ev : gV h tk rt set last = v := by unfold gV; rw [eg, i1]
      have ew : gW h tk rt set last = row := by unfold gW; rw [eg, i1]
      have e3 : v = gT h tk rt set last (cpW last t) := congrArg Prod.fst e2
      have e4 : row = t :: gW h tk rt (set ||| 2 ^ cpW last t) (cpW last t) := congrArg Prod.snd e2
      rw [ev, ew]
      refine ⟨i1, by rw [e3]; exact s2, by rw [e4, List.length_cons, s3], fun z => by omega, fun _ => ⟨fun u hu hfu => ?_, t, by omega, i3, hf, e3, e4, fun t' h1 h2 hf' => ?_⟩⟩
      · have ne : last ≠ u := fun z => by rw [z, hfu] at hb; cases hb
        obtain ⟨a1, a2, a3⟩ := tbW_c last hl u hu
        have a3 := a3 ne
        have := i5 (tbW last u) (by omega) (by omega) _ (sub _ (by omega) (by rw [a2]; exact hfu)).1
        rw [a2] at this
        exact this
      · exact i6 t' (by omega) h2 _ (sub t' (by omega) hf').1
end
/-- a set, bit by bit -/
def rB (f : Nat → Bool) : Nat → Nat
  | 0 => 0
  | k + 1 => rB f k ||| (if f k then 2 ^ k else 0)
theorem rB_y {f : Nat → Bool} {k : Nat} (h : f k = true) : rB f (k + 1) = rB f k ||| 2 ^ k := by
  show rB f k ||| (if f k then 2 ^ k else 0) = _
  rw [if_pos h]
theorem rB_f {f : Nat → Bool} {k : Nat} (h : f k = false) : rB f (k + 1) = rB f k := by
  show rB f k ||| (if f k then 2 ^ k else 0) = _
  rw [if_neg (by rw [h]; exact Bool.false_ne_true), Nat.or_zero]
theorem rB_t {f : Nat → Bool} : ∀ k w : Nat, (rB f k).testBit w = (decide (w < k) && f w) := by
  intro k
  induction k with
  | zero => intro w; show Nat.testBit 0 w = _; rw [Nat.zero_testBit]; simp
  | succ k ih =>
    intro w
    cases q : f k with
    | true =>
      rw [rB_y q, Nat.testBit_or, ih, Nat.testBit_two_pow]
      by_cases e : k = w
      · subst e
        simp [q]
      · have e2 : decide (w < k + 1) = decide (w < k) := decide_eq_decide.mpr (by omega)
        rw [e2, decide_eq_false e, Bool.or_false]
    | false =>
      rw [rB_f q, ih]
      by_cases e : k = w
      · subst e
        simp [q]
      · have e2 : decide (w < k + 1) = decide (w < k) := decide_eq_decide.mpr (by omega)
        rw [e2]
theorem rB_l {f : Nat → Bool} : ∀ k : Nat, rB f k < 2 ^ k := by
  intro k
  induction k with
  | zero => show 0 < 1; omega
  | succ k ih =>
    have e : 2 ^ (k + 1) = 2 ^ k + 2 ^ k := by rw [Nat.pow_succ]; omega
    show rB f k ||| (if f k then 2 ^ k else 0) < _
    refine Nat.or_lt_two_pow (by omega) ?_
    split <;> omega
/-- what the ways of a set put right -/
def uR (r : Nat → Nat) (set : Nat) : Nat → Nat
  | 0 => 0
  | k + 1 => uR r set k ||| (if set.testBit k then r k else 0)
theorem uR_l {r : Nat → Nat} {set : Nat} (hr : ∀ k, r k < 256) : ∀ k : Nat, uR r set k < 256 := by
  intro k
  induction k with
  | zero => show 0 < 256; omega
  | succ k ih =>
    show uR r set k ||| (if set.testBit k then r k else 0) < 2 ^ 8
    refine Nat.or_lt_two_pow ih ?_
    split
    · exact hr k
    · omega
theorem uR_y {r : Nat → Nat} {set k : Nat} (h : set.testBit k = true) : uR r set (k + 1) = uR r set k ||| r k := by
  show uR r set k ||| (if set.testBit k then r k else 0) = _
  rw [if_pos h]
theorem uR_f {r : Nat → Nat} {set k : Nat} (h : set.testBit k = false) : uR r set (k + 1) = uR r set k := by
  show uR r set k ||| (if set.testBit k then r k else 0) = _
  rw [if_neg (by rw [h]; exact Bool.false_ne_true), Nat.or_zero]
theorem uR_t {r : Nat → Nat} {set w : Nat} : ∀ k : Nat, (uR r set k).testBit w = true ↔ ∃ v, v < k ∧ set.testBit v = true ∧ (r v).testBit w = true := by
  intro k
  induction k with
  | zero =>
    constructor
    · intro h
      rw [show uR r set 0 = 0 from rfl, Nat.zero_testBit] at h
      cases h
    · intro ⟨v, h, _⟩
      omega
  | succ k ih =>
    cases q : set.testBit k with
    | true =>
      rw [uR_y q, Nat.testBit_or, Bool.or_eq_true, ih]
      constructor
      · rintro (⟨v, a, b⟩ | h)
        · exact ⟨v, by omega, b⟩
        · exact ⟨k, by omega, q, h⟩
      · rintro ⟨v, a, b, e⟩
        by_cases z : v = k
        · rw [z] at e; exact Or.inr e
        · exact Or.inl ⟨v, by omega, b, e⟩
    | false =>
      rw [uR_f q, ih]
      constructor
      · rintro ⟨v, a, b⟩
        exact ⟨v, by omega, b⟩
      · rintro ⟨v, a, b, e⟩
        by_cases z : v = k
        · rw [z, q] at b; cases b
        · exact ⟨v, by omega, b, e⟩
/-- of the ways that turns put right, and the ways still not right -/
theorem uR_n {rt : Nat → Bool} {set w : Nat} (hw : w < 8) : (uR (fun v => rB (fun u => rt (cpW u v)) 8) set 8).testBit w = !nRt rt set w := by
  apply Bool.eq_iff_iff.mpr
  rw [uR_t, Bool.not_eq_true']
  have e8 : decide (w < 8) = true := decide_eq_true hw
  constructor
  · rintro ⟨v, a, b, e⟩
    rw [rB_t, e8, Bool.true_and] at e
    cases q : nRt rt set w with
    | false => rfl
    | true => rw [nRt_y.mp q v a b] at e; cases e
  · intro h
    cases q : (uR (fun v => rB (fun u => rt (cpW u v)) 8) set 8).testBit w with
    | true => exact (uR_t 8).mp q
    | false =>
      exfalso
      have : nRt rt set w = true := nRt_y.mpr (fun v hv ht => by
        cases z : rt (cpW w v) with
        | false => rfl
        | true =>
          have : (uR (fun v => rB (fun u => rt (cpW u v)) 8) set 8).testBit w = true := (uR_t 8).mpr ⟨v, hv, ht, by rw [rB_t, e8, Bool.true_and]; exact z⟩
          rw [q] at this
          cases this)
      rw [h] at this
      cases this
theorem or_g {a b : Nat} : Int32.ofInt (a : Int) ||| Int32.ofInt (b : Int) = Int32.ofInt ((a ||| b : Nat) : Int) := by
  apply Int32.toBitVec_inj.mp
  rw [Int32.toBitVec_or]
  show BitVec.ofInt 32 _ ||| BitVec.ofInt 32 _ = BitVec.ofInt 32 _
  rw [BitVec.ofInt_natCast, BitVec.ofInt_natCast, BitVec.ofInt_natCast]
  apply BitVec.eq_of_toNat_eq
  simp [BitVec.toNat_or, BitVec.toNat_ofNat]
theorem bt_n : ∀ n : Nat, n < 256 → ∀ w : Nat, w < 8 → ((Int32.ofInt (n : Int) >>> (Int32.ofInt (w : Int) &&& 31)) &&& Int32.ofInt 1) = Int32.ofInt (if n.testBit w then 1 else 0) := by decide +kernel
theorem sh_n : ∀ w : Nat, w < 8 → (Int32.ofInt 1 <<< (Int32.ofInt (w : Int) &&& 31)) = Int32.ofInt ((2 ^ w : Nat) : Int) := by decide +kernel
theorem or_n {n w : Nat} (hw : w < 8) : (Int32.ofInt (n : Int) ||| (Int32.ofInt 1 <<< (Int32.ofInt (w : Int) &&& 31))) = Int32.ofInt ((n ||| 2 ^ w : Nat) : Int) := by rw [sh_n w hw, or_g]
/-- the least of what the turns to the first ways cost -/
def dfI (h tk : Nat → Int) (rt : Nat → Bool) (set last k : Nat) (m : Int) : Prop := (m = -1 ∧ ∀ v, v < k → set.testBit v = true) ∨ ((∃ v, v < k ∧ set.testBit v = false ∧ m = gT h tk rt set last v) ∧ ∀ v, v < k → set.testBit v = false → m ≤ gT h tk rt set last v)
section
variable {h tk : Nat → Int} {rt : Nat → Bool} {set last k : Nat} {m : Int}
theorem dfI_0 : dfI h tk rt set last 0 (-1) := Or.inl ⟨rfl, fun v hv => absurd hv (Nat.not_lt_zero v)⟩
theorem dfI_t (hI : dfI h tk rt set last k m) (hk : set.testBit k = true) : dfI h tk rt set last (k + 1) m := by
  rcases hI with ⟨a, b⟩ | ⟨⟨v, a, b, e⟩, i⟩
  · refine Or.inl ⟨a, fun v hv => ?_⟩
    by_cases z : v = k
    · rw [z]; exact hk
    · exact b v (by omega)
  · refine Or.inr ⟨⟨v, by omega, b, e⟩, fun u hu hf => ?_⟩
    by_cases z : u = k
    · rw [z, hk] at hf; cases hf
    · exact i u (by omega) hf
theorem dfI_a (hI : dfI h tk rt set last k m) (hk : set.testBit k = false) (hm : m = -1 ∨ gT h tk rt set last k < m) (h0 : ∀ v, v < k + 1 → set.testBit v = false → 0 ≤ gT h tk rt set last v) : dfI h tk rt set last (k + 1) (gT h tk rt set last k) := by
  rcases hI with ⟨a, b⟩ | ⟨⟨v, a, b, e⟩, i⟩
  · refine Or.inr ⟨⟨k, by omega, hk, rfl⟩, fun u hu hf => ?_⟩
    by_cases z : u = k
    · rw [z]; exact Int.le_refl _
    · rw [b u (by omega)] at hf; cases hf
  · refine Or.inr ⟨⟨k, by omega, hk, rfl⟩, fun u hu hf => ?_⟩
    by_cases z : u = k
    · rw [z]; exact Int.le_refl _
    · have x := i u (by omega) hf
      have y := h0 v (by omega) b
      rcases hm with hm | hm
      · omega
      · omega
theorem dfI_b (hI : dfI h tk rt set last k m) (hm : ¬ m = -1) (hl : ¬ gT h tk rt set last k < m) : dfI h tk rt set last (k + 1) m := by
  rcases hI with ⟨a, b⟩ | ⟨⟨v, a, b, e⟩, i⟩
  · exact absurd a hm
  · refine Or.inr ⟨⟨v, by omega, b, e⟩, fun u hu hf => ?_⟩
    by_cases z : u = k
    · rw [z]; omega
    · exact i u (by omega) hf
theorem dfI_g (hh : ∀ w, 0 ≤ h w ∧ h w ≤ 99) (ht : ∀ t, 0 ≤ tk t ∧ tk t ≤ 99) (hs : set < 256) (hl : last < 8) (hb : set.testBit last = true) (hI : dfI h tk rt set last 8 m) : (if m < 0 then 0 else m) = gV h tk rt set last := by
  obtain ⟨-, g2, -, g4, g5⟩ := gG_s (rt := rt) hh ht (cntW set) set last hs hl hb rfl
  rcases hI with ⟨a, b⟩ | ⟨⟨v, a, b, e⟩, i⟩
  · have z : cntW set = 0 := by
      by_cases z : cntW set = 0
      · exact z
      · obtain ⟨v, h1, h2⟩ := (cnt_p set hs).2 z
        rw [b v h1] at h2
        cases h2
    rw [g4 z, a]
    rfl
  · have z : cntW set ≠ 0 := fun z => by
      have := (cnt_p set hs).1 z
      subst this
      have : ∀ v, v < 8 → Nat.testBit 255 v = true := by decide
      rw [this v a] at b
      cases b
    obtain ⟨g6, t, t1, t2, t3, t4, -⟩ := g5 z
    have x := g6 v a b
    have y := i _ (cpW_l last hl t (by omega)) t3
    rw [if_neg (by omega)]
    omega
theorem gT_b (hh : ∀ w, 0 ≤ h w ∧ h w ≤ 99) (ht : ∀ t, 0 ≤ tk t ∧ tk t ≤ 99) (hs : set < 256) {v : Nat} (hv : v < 8) (hf : set.testBit v = false) : 0 ≤ gT h tk rt set last v ∧ gT h tk rt set last v ≤ 78408 * 9 ∧ (0 ≤ gV h tk rt (set ||| 2 ^ v) v ∧ gV h tk rt (set ||| 2 ^ v) v ≤ 78408 * 8) := by
  obtain ⟨c1, c2, -, -⟩ := cnt_o set hs v hv hf
  obtain ⟨-, g2, -⟩ := gG_s (rt := rt) hh ht (cntW (set ||| 2 ^ v)) (set ||| 2 ^ v) v c2 hv (by rw [tb_or]; simp) rfl
  have m := mul_b (oO_b (rt := rt) hh set) (ht (tbW last v))
  have : cntW set ≤ 8 := by
    unfold cntW
    exact Nat.le_trans (List.length_filter_le _ _) (by rw [List.length_range]; exact Nat.le_refl _)
  unfold gT
  omega
end
