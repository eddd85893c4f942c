section
/-! numbers and worlds of a small reckoner: a value is (kind, low, high): kind 0 an int between two bounds (moved up by 2^31), 1 a long (moved up by 2^63), 2 null, 3 the address at a place of a list, else the script -/
abbrev xe_v : Type := Nat × Nat × Nat
abbrev xe_c : Type := Nat × Nat × List xe_v × xe_v × List (Nat × xe_v)
def xe_i (x : Int32) : Nat := (x.toBitVec.toNat + 2147483648) % 4294967296
def xe_j (n : Nat) : Int32 := Int32.ofNat (n + 2147483648)
def xe_l (x : Int64) : Nat := (x.toBitVec.toNat + 9223372036854775808) % 18446744073709551616
def xe_k (n : Nat) : Int64 := Int64.ofNat (n + 9223372036854775808)
theorem xe_ti (x : Int32) : x.toInt = (xe_i x : Int) - 2147483648 := by
  have h := x.toBitVec.isLt
  rw [← Int32.toInt_toBitVec, BitVec.toInt_eq_toNat_cond]
  unfold xe_i
  split <;> omega
theorem xe_tl (x : Int64) : x.toInt = (xe_l x : Int) - 9223372036854775808 := by
  have h := x.toBitVec.isLt
  rw [← Int64.toInt_toBitVec, BitVec.toInt_eq_toNat_cond]
  unfold xe_l
  split <;> omega
theorem xe_i_lt (x : Int32) : xe_i x < 4294967296 := Nat.mod_lt _ (by decide)
theorem xe_l_lt (x : Int64) : xe_l x < 18446744073709551616 := Nat.mod_lt _ (by decide)
theorem xe_inj {x y : Int32} (h : xe_i x = xe_i y) : x = y := Int32.toInt_inj.mp (by rw [xe_ti, xe_ti, h])
theorem xe_injl {x y : Int64} (h : xe_l x = xe_l y) : x = y := Int64.toInt_inj.mp (by rw [xe_tl, xe_tl, h])
theorem xe_ij {n : Nat} (h : n < 4294967296) : xe_i (xe_j n) = n := by
  show ((BitVec.ofNat 32 (n + 2147483648)).toNat + 2147483648) % 4294967296 = n
  rw [BitVec.toNat_ofNat]
  omega
theorem xe_lk {n : Nat} (h : n < 18446744073709551616) : xe_l (xe_k n) = n := by
  show ((BitVec.ofNat 64 (n + 9223372036854775808)).toNat + 9223372036854775808) % 18446744073709551616 = n
  rw [BitVec.toNat_ofNat]
  omega
theorem xe_ji (x : Int32) : xe_j (xe_i x) = x := xe_inj (xe_ij (xe_i_lt x))
theorem xe_kl (x : Int64) : xe_k (xe_l x) = x := xe_injl (xe_lk (xe_l_lt x))
theorem xe_lt {x y : Int32} : x < y ↔ xe_i x < xe_i y := by
  rw [Int32.lt_iff_toInt_lt, xe_ti, xe_ti]
  omega
theorem xe_eq {x y : Int32} : x = y ↔ xe_i x = xe_i y := ⟨fun h => by rw [h], xe_inj⟩
theorem xe_nI {x : Int32} {n : Nat} (h : xe_i x = 2147483648 + n) : x = nI n := by
  have h1 := xe_i_lt x
  have h2 : n < 2 ^ 31 := by omega
  exact Int32.toInt_inj.mp (by rw [xe_ti, h, nI_toInt h2]; omega)
/-- a number is reckoned out before it is handed on -/
def xe_f {α : Type} (n : Nat) (k : Nat → α) : α := match n with
  | 0 => k 0
  | n + 1 => k (n + 1)
theorem xe_f_eq {α : Type} (n : Nat) (k : Nat → α) : xe_f n k = k n := by cases n <;> rfl
/-- and a list's spine -/
def xe_fl {α β : Type} (l : List α) (k : List α → β) : β := match l with
  | [] => k []
  | a :: t => xe_fl t (fun t' => k (a :: t'))
theorem xe_fl_eq {α β : Type} (l : List α) (k : List α → β) : xe_fl l k = k l := by
  induction l generalizing k with
  | nil => rfl
  | cons a t ih => rw [xe_fl, ih]
/-- what a value of the reckoner stands for -/
def xe_g (b : Nat) (as : List Nat) (a : xe_v) (v : Value) : Prop := match a.1 with
  | 0 => ∃ x : Int32, v = .int x ∧ a.2.1 ≤ xe_i x ∧ xe_i x ≤ a.2.2
  | 1 => ∃ x : Int64, v = .long x ∧ a.2.1 ≤ xe_l x ∧ xe_l x ≤ a.2.2
  | 2 => v = .null
  | 3 => ∃ q : Nat, as[a.2.1]? = some q ∧ v = .ref q
  | _ => v = .ref b
def xe_m (as as2 : List Nat) : Prop := ∀ r q : Nat, as[r]? = some q → as2[r]? = some q
theorem xe_m_rf (as : List Nat) : xe_m as as := fun _ _ h => h
theorem xe_m_tr {a b c : List Nat} (h : xe_m a b) (k : xe_m b c) : xe_m a c := fun r q z => k r q (h r q z)
theorem xe_m_app (as t : List Nat) : xe_m as (as ++ t) := fun r q h => by
  have := (List.getElem?_eq_some_iff.mp h).1
  rw [List.getElem?_append_left this]
  exact h
theorem xe_g_m {b : Nat} {as as2 : List Nat} {a : xe_v} {v : Value} (hm : xe_m as as2) (h : xe_g b as a v) : xe_g b as2 a v := by
  unfold xe_g at h ⊢
  split <;> simp_all only []
  obtain ⟨q, h1, h2⟩ := h
  exact ⟨q, hm _ _ h1, h2⟩
theorem xe_g0 {b : Nat} {as : List Nat} {a : xe_v} {v : Value} (t : (a.1 == 0) = true) (h : xe_g b as a v) : ∃ x : Int32, v = .int x ∧ a.2.1 ≤ xe_i x ∧ xe_i x ≤ a.2.2 := by
  have e : a.1 = 0 := by simpa using t
  unfold xe_g at h
  rw [e] at h
  exact h
theorem xe_g1 {b : Nat} {as : List Nat} {a : xe_v} {v : Value} (t : (a.1 == 1) = true) (h : xe_g b as a v) : ∃ x : Int64, v = .long x ∧ a.2.1 ≤ xe_l x ∧ xe_l x ≤ a.2.2 := by
  have e : a.1 = 1 := by simpa using t
  unfold xe_g at h
  rw [e] at h
  exact h
theorem xe_g2 {b : Nat} {as : List Nat} {a : xe_v} {v : Value} (t : (a.1 == 2) = true) (h : xe_g b as a v) : v = .null := by
  have e : a.1 = 2 := by simpa using t
  unfold xe_g at h
  rw [e] at h
  exact h
theorem xe_g3 {b : Nat} {as : List Nat} {a : xe_v} {v : Value} (t : (a.1 == 3) = true) (h : xe_g b as a v) : ∃ q : Nat, as[a.2.1]? = some q ∧ v = .ref q := by
  have e : a.1 = 3 := by simpa using t
  unfold xe_g at h
  rw [e] at h
  exact h
theorem xe_g4 {b : Nat} {as : List Nat} {a : xe_v} {v : Value} (t : (a.1 == 4) = true) (h : xe_g b as a v) : v = .ref b := by
  have e : a.1 = 4 := by simpa using t
  unfold xe_g at h
  rw [e] at h
  exact h
theorem xe_gi {b : Nat} {as : List Nat} (x : Int32) : xe_g b as (0, xe_i x, xe_i x) (.int x) := ⟨x, rfl, Nat.le_refl _, Nat.le_refl _⟩
theorem xe_gl {b : Nat} {as : List Nat} (x : Int64) : xe_g b as (1, xe_l x, xe_l x) (.long x) := ⟨x, rfl, Nat.le_refl _, Nat.le_refl _⟩
theorem xe_gt {b : Nat} {as : List Nat} (x : Int32) : xe_g b as (0, 0, 4294967295) (.int x) := ⟨x, rfl, Nat.zero_le _, by have := xe_i_lt x; show xe_i x ≤ 4294967295; omega⟩
theorem xe_gtl {b : Nat} {as : List Nat} (x : Int64) : xe_g b as (1, 0, 18446744073709551615) (.long x) := ⟨x, rfl, Nat.zero_le _, by have := xe_l_lt x; show xe_l x ≤ 18446744073709551615; omega⟩
theorem xe_cat {b : Nat} {as : List Nat} {a : xe_v} {v : Value} (h : xe_g b as a v) : v.category = if a.1 == 1 then 2 else 1 := by
  unfold xe_g at h
  split at h
  · next e => obtain ⟨x, rfl, -, -⟩ := h; rw [e]; rfl
  · next e => obtain ⟨x, rfl, -, -⟩ := h; rw [e]; rfl
  · next e => subst h; rw [e]; rfl
  · next e => obtain ⟨q, -, rfl⟩ := h; rw [e]; rfl
  · next h1 h2 h3 h4 => subst h; rw [if_neg (by simpa using h2)]; rfl
/-- lists of values, place by place -/
def xe_w (b : Nat) (as : List Nat) : List xe_v → List Value → Prop
  | [], [] => True
  | a :: l, v :: m => xe_g b as a v ∧ xe_w b as l m
  | _, _ => False
theorem xe_w_nil {b : Nat} {as : List Nat} {m : List Value} (h : xe_w b as [] m) : m = [] := by
  cases m with
  | nil => rfl
  | cons v m => exact False.elim h
theorem xe_w_cons {b : Nat} {as : List Nat} {a : xe_v} {l : List xe_v} {m : List Value} (h : xe_w b as (a :: l) m) : ∃ (v : Value) (m2 : List Value), m = v :: m2 ∧ xe_g b as a v ∧ xe_w b as l m2 := by
  cases m with
  | nil => exact False.elim h
  | cons v m => exact ⟨v, m, rfl, h.1, h.2⟩
theorem xe_w_len {b : Nat} {as : List Nat} : ∀ {l : List xe_v} {m : List Value}, xe_w b as l m → m.length = l.length
  | [], m, h => by rw [xe_w_nil h]; rfl
  | a :: l, m, h => by
    obtain ⟨v, m2, rfl, -, h2⟩ := xe_w_cons h
    simp [xe_w_len h2]
theorem xe_w_get {b : Nat} {as : List Nat} : ∀ {l : List xe_v} {m : List Value}, xe_w b as l m → ∀ {k : Nat} {a : xe_v}, l[k]? = some a → ∃ v : Value, m[k]? = some v ∧ xe_g b as a v
  | [], _, _, k, a, hk => by simp at hk
  | a :: l, m, h, k, a2, hk => by
    obtain ⟨v, m2, rfl, h1, h2⟩ := xe_w_cons h
    cases k with
    | zero =>
      simp only [List.getElem?_cons_zero, Option.some.injEq] at hk
      subst hk
      exact ⟨v, rfl, h1⟩
    | succ k =>
      rw [List.getElem?_cons_succ] at hk
      obtain ⟨v2, q1, q2⟩ := xe_w_get h2 hk
      exact ⟨v2, by rw [List.getElem?_cons_succ]; exact q1, q2⟩
theorem xe_w_set {b : Nat} {as : List Nat} : ∀ {l : List xe_v} {m : List Value}, xe_w b as l m → ∀ {a : xe_v} {v : Value} (k : Nat), xe_g b as a v → xe_w b as (l.set k a) (m.set k v)
  | [], m, h, a, v, k, hg => by rw [xe_w_nil h]; exact trivial
  | a0 :: l, m, h, a, v, k, hg => by
    obtain ⟨v0, m2, rfl, h1, h2⟩ := xe_w_cons h
    cases k with
    | zero => exact ⟨hg, h2⟩
    | succ k => exact ⟨h1, xe_w_set h2 k hg⟩
theorem xe_w_m {b : Nat} {as as2 : List Nat} (hm : xe_m as as2) : ∀ {l : List xe_v} {m : List Value}, xe_w b as l m → xe_w b as2 l m
  | [], m, h => by rw [xe_w_nil h]; exact trivial
  | a :: l, m, h => by
    obtain ⟨v, m2, rfl, h1, h2⟩ := xe_w_cons h
    exact ⟨xe_g_m hm h1, xe_w_m hm h2⟩
theorem xe_w_app {b : Nat} {as : List Nat} : ∀ {l : List xe_v} {m : List Value} {l2 : List xe_v} {m2 : List Value}, xe_w b as l m → xe_w b as l2 m2 → xe_w b as (l ++ l2) (m ++ m2)
  | [], m, l2, m2, h, h2 => by rw [xe_w_nil h]; exact h2
  | a :: l, m, l2, m2, h, h2 => by
    obtain ⟨v, m3, rfl, q1, q2⟩ := xe_w_cons h
    exact ⟨q1, xe_w_app q2 h2⟩
theorem xe_w_rev {b : Nat} {as : List Nat} : ∀ {l : List xe_v} {m : List Value}, xe_w b as l m → xe_w b as l.reverse m.reverse
  | [], m, h => by rw [xe_w_nil h]; exact trivial
  | a :: l, m, h => by
    obtain ⟨v, m3, rfl, q1, q2⟩ := xe_w_cons h
    rw [List.reverse_cons, List.reverse_cons]
    exact xe_w_app (xe_w_rev q2) ⟨q1, trivial⟩
/-- the upper n of a stack, and the rest -/
theorem xe_w_split {b : Nat} {as : List Nat} : ∀ (n : Nat) {l : List xe_v} {m : List Value}, xe_w b as l m → xe_w b as (l.take n) (m.take n) ∧ xe_w b as (l.drop n) (m.drop n)
  | 0, l, m, h => ⟨trivial, h⟩
  | n + 1, [], m, h => by rw [xe_w_nil h]; exact ⟨trivial, trivial⟩
  | n + 1, a :: l, m, h => by
    obtain ⟨v, m3, rfl, q1, q2⟩ := xe_w_cons h
    obtain ⟨h1, h2⟩ := xe_w_split n q2
    exact ⟨⟨q1, h1⟩, h2⟩
def xe_sum : List xe_v → Nat
  | [] => 0
  | a :: l => (if a.1 == 1 then 2 else 1) + xe_sum l
theorem xe_w_sum {b : Nat} {as : List Nat} : ∀ {l : List xe_v} {m : List Value}, xe_w b as l m → (m.map fun v => v.category).sum = xe_sum l
  | [], m, h => by rw [xe_w_nil h]; rfl
  | a :: l, m, h => by
    obtain ⟨v, m3, rfl, q1, q2⟩ := xe_w_cons h
    rw [List.map_cons, List.sum_cons, xe_w_sum q2, xe_cat q1]
    rfl
/-- local places, the same way -/
def xe_p (b : Nat) (as : List Nat) : List (Nat × xe_v) → List (Nat × Value) → Prop
  | [], [] => True
  | a :: l, v :: m => (a.1 = v.1 ∧ xe_g b as a.2 v.2) ∧ xe_p b as l m
  | _, _ => False
theorem xe_p_nil {b : Nat} {as : List Nat} {m : List (Nat × Value)} (h : xe_p b as [] m) : m = [] := by
  cases m with
  | nil => rfl
  | cons v m => exact False.elim h
theorem xe_p_cons {b : Nat} {as : List Nat} {i : Nat} {a : xe_v} {l : List (Nat × xe_v)} {m : List (Nat × Value)} (h : xe_p b as ((i, a) :: l) m) : ∃ (v : Value) (m2 : List (Nat × Value)), m = (i, v) :: m2 ∧ xe_g b as a v ∧ xe_p b as l m2 := by
  cases m with
  | nil => exact False.elim h
  | cons q m =>
    obtain ⟨⟨h1, h2⟩, h3⟩ := h
    obtain ⟨j, v⟩ := q
    dsimp only at h1 h2
    subst h1
    exact ⟨v, m, rfl, h2, h3⟩
theorem xe_p_m {b : Nat} {as as2 : List Nat} (hm : xe_m as as2) : ∀ {l : List (Nat × xe_v)} {m : List (Nat × Value)}, xe_p b as l m → xe_p b as2 l m
  | [], m, h => by rw [xe_p_nil h]; exact trivial
  | (i, a) :: l, m, h => by
    obtain ⟨v, m2, rfl, h1, h2⟩ := xe_p_cons h
    exact ⟨⟨rfl, xe_g_m hm h1⟩, xe_p_m hm h2⟩
def xe_lg (l : List (Nat × xe_v)) (i : Nat) : Option xe_v := match l with
  | [] => none
  | q :: l => if q.1 == i then some q.2 else xe_lg l i
theorem xe_p_lg {b : Nat} {as : List Nat} {i : Nat} {a : xe_v} : ∀ {l : List (Nat × xe_v)} {m : List (Nat × Value)}, xe_p b as l m → xe_lg l i = some a → ∃ (k : Nat) (v : Value), m[k]? = some (i, v) ∧ xe_g b as a v
  | [], m, h, hk => by cases hk
  | (j, c) :: l, m, h, hk => by
    obtain ⟨v, m2, rfl, h1, h2⟩ := xe_p_cons h
    unfold xe_lg at hk
    split at hk
    · next e =>
      have e : j = i := by simpa using e
      subst e
      cases hk
      exact ⟨0, v, rfl, h1⟩
    · obtain ⟨k, v2, q1, q2⟩ := xe_p_lg h2 hk
      exact ⟨k + 1, v2, by rw [List.getElem?_cons_succ]; exact q1, q2⟩
/-- a store, as the kit lists it: one word, two words -/
def xe_s1 (l : List (Nat × xe_v)) (i : Nat) (a : xe_v) : List (Nat × xe_v) := (i, a) :: l.filter (fun q => !(q.1 == i) && !(q.1 + 1 == i && q.2.1 == 1))
def xe_s2 (l : List (Nat × xe_v)) (i : Nat) (a : xe_v) : List (Nat × xe_v) := (i, a) :: l.filter (fun q => !(q.1 == i) && (!(q.1 == i + 1) && !(q.1 + 1 == i && q.2.1 == 1)))
theorem xe_p_fil {b : Nat} {as : List Nat} {f : Nat × xe_v → Bool} {g : Nat × Value → Bool} (hfg : ∀ i a v, xe_g b as a v → f (i, a) = g (i, v)) : ∀ {l : List (Nat × xe_v)} {m : List (Nat × Value)}, xe_p b as l m → xe_p b as (l.filter f) (m.filter g)
  | [], m, h => by rw [xe_p_nil h]; exact trivial
  | (i, a) :: l, m, h => by
    obtain ⟨v, m2, rfl, h1, h2⟩ := xe_p_cons h
    rw [List.filter_cons, List.filter_cons, hfg i a v h1]
    split
    · exact ⟨⟨rfl, h1⟩, xe_p_fil hfg h2⟩
    · exact xe_p_fil hfg h2
theorem xe_c2 {b : Nat} {as : List Nat} {a : xe_v} {v : Value} (h : xe_g b as a v) : (a.1 == 1) = (v.category == 2) := by
  rw [xe_cat h]
  cases a.1 == 1 <;> rfl
theorem xe_p_s1 {b : Nat} {as : List Nat} {l : List (Nat × xe_v)} {m : List (Nat × Value)} (h : xe_p b as l m) {i : Nat} {a : xe_v} {v : Value} (hg : xe_g b as a v) : xe_p b as (xe_s1 l i a) ((i, v) :: m.filter (fun q => !(q.1 == i) && !(q.1 + 1 == i && q.2.category == 2))) :=
  ⟨⟨rfl, hg⟩, xe_p_fil (fun j c w hw => by dsimp only; rw [xe_c2 hw]) h⟩
theorem xe_p_s2 {b : Nat} {as : List Nat} {l : List (Nat × xe_v)} {m : List (Nat × Value)} (h : xe_p b as l m) {i : Nat} {a : xe_v} {v : Value} (hg : xe_g b as a v) : xe_p b as (xe_s2 l i a) ((i, v) :: m.filter (fun q => !(q.1 == i) && (!(q.1 == i + 1) && !(q.1 + 1 == i && q.2.category == 2)))) :=
  ⟨⟨rfl, hg⟩, xe_p_fil (fun j c w hw => by dsimp only; rw [xe_c2 hw]) h⟩
/-- the first places: the receiver's and the arguments' -/
def xe_ar : Nat → List xe_v → List (Nat × xe_v)
  | _, [] => []
  | i, a :: l => (i, a) :: xe_ar (if a.1 == 1 then i + 2 else i + 1) l
theorem xe_p_ar {b : Nat} {as : List Nat} : ∀ {l : List xe_v} {m : List Value} (i : Nat), xe_w b as l m → xe_p b as (xe_ar i l) (lv_args i m)
  | [], m, i, h => by rw [xe_w_nil h]; exact trivial
  | a :: l, m, i, h => by
    obtain ⟨v, m2, rfl, h1, h2⟩ := xe_w_cons h
    refine ⟨⟨rfl, h1⟩, ?_⟩
    have e : (if a.1 == 1 then i + 2 else i + 1) = (if v.category = 2 then i + 2 else i + 1) := by
      rw [xe_cat h1]
      cases a.1 == 1 <;> rfl
    show xe_p b as (xe_ar _ l) (lv_args _ m2)
    rw [e]
    exact xe_p_ar _ h2
theorem xe_w_sl {b : Nat} {as : List Nat} : ∀ {l : List xe_v} {m : List Value}, xe_w b as l m → (lg_sl m).length = xe_sum l
  | [], m, h => by rw [xe_w_nil h]; rfl
  | a :: l, m, h => by
    obtain ⟨v, m2, rfl, h1, h2⟩ := xe_w_cons h
    have ih := xe_w_sl h2
    unfold lg_sl at ih ⊢
    rw [List.flatMap_cons, List.length_append, ih, xe_cat h1]
    show _ = (if a.1 == 1 then 2 else 1) + xe_sum l
    cases a.1 == 1 <;> rfl
end
section
/-! cells of the reckoner: (0, which class, its fields), (1 ints, 2 bytes, 3 longs, 4 addresses; how many; what stands where nothing else is noted; what is noted) -/
def xe_ag : List (Nat × xe_v) → xe_v → Nat → xe_v
  | [], d, _ => d
  | q :: o, d, k => if q.1 == k then q.2 else xe_ag o d k
def xe_at : List (Nat × xe_v) → Nat → xe_v → List (Nat × xe_v)
  | [], k, v => [(k, v)]
  | q :: o, k, v => if q.1 == k then (k, v) :: o else q :: xe_at o k v
theorem xe_ag_at (d : xe_v) (k : Nat) (v : xe_v) (j : Nat) : ∀ o : List (Nat × xe_v), xe_ag (xe_at o k v) d j = if j = k then v else xe_ag o d j
  | [] => by
    show (if k == j then v else d) = if j = k then v else d
    by_cases h : j = k
    · subst h; simp
    · rw [if_neg h, if_neg (by simpa using fun z => h z.symm)]
  | q :: o => by
    by_cases hq : q.1 = k
    · have e : xe_at (q :: o) k v = (k, v) :: o := by simp [xe_at, hq]
      rw [e]
      show (if k == j then v else xe_ag o d j) = if j = k then v else (if q.1 == j then q.2 else xe_ag o d j)
      by_cases h : j = k
      · subst h; simp
      · rw [if_neg h, if_neg (by simpa using fun z => h z.symm), if_neg (by rw [hq]; simpa using fun z => h z.symm)]
    · have e : xe_at (q :: o) k v = q :: xe_at o k v := by simp [xe_at, hq]
      rw [e]
      show (if q.1 == j then q.2 else xe_ag (xe_at o k v) d j) = if j = k then v else (if q.1 == j then q.2 else xe_ag o d j)
      rw [xe_ag_at d k v j o]
      by_cases h : j = k
      · subst h
        rw [if_pos rfl, if_neg (by simpa using hq), if_pos rfl]
      · rw [if_neg h, if_neg h]
def xe_aw (o : List (Nat × xe_v)) (d : xe_v) (k : Nat) (v : xe_v) : List (Nat × xe_v) := if xe_ag o d k = v then o else xe_at o k v
theorem xe_ag_aw (o : List (Nat × xe_v)) (d : xe_v) (k : Nat) (v : xe_v) (j : Nat) : xe_ag (xe_aw o d k v) d j = if j = k then v else xe_ag o d j := by
  unfold xe_aw
  split
  · next h =>
    by_cases e : j = k
    · subst e; rw [if_pos rfl, h]
    · rw [if_neg e]
  · exact xe_ag_at d k v j o
/-- n of one row to another -/
def xe_ac (o2 : List (Nat × xe_v)) (d2 : xe_v) (sp dp : Nat) : Nat → List (Nat × xe_v) → xe_v → List (Nat × xe_v)
  | 0, o, _ => o
  | n + 1, o, d => xe_aw (xe_ac o2 d2 sp dp n o d) d (dp + n) (xe_ag o2 d2 (sp + n))
theorem xe_ag_ac (o2 : List (Nat × xe_v)) (d2 : xe_v) (sp dp : Nat) (o : List (Nat × xe_v)) (d : xe_v) (j : Nat) : ∀ n : Nat, xe_ag (xe_ac o2 d2 sp dp n o d) d j = if dp ≤ j ∧ j < dp + n then xe_ag o2 d2 (sp + (j - dp)) else xe_ag o d j
  | 0 => by rw [if_neg (by omega)]; rfl
  | n + 1 => by
    show xe_ag (xe_aw (xe_ac o2 d2 sp dp n o d) d (dp + n) (xe_ag o2 d2 (sp + n))) d j = _
    rw [xe_ag_aw, xe_ag_ac o2 d2 sp dp o d j n]
    by_cases h : j = dp + n
    · subst h
      rw [if_pos rfl, if_pos (by omega), Nat.add_sub_cancel_left]
    · rw [if_neg h]
      by_cases h2 : dp ≤ j ∧ j < dp + n
      · rw [if_pos h2, if_pos (by omega)]
      · rw [if_neg h2, if_neg (by omega)]
def xe_r (E : Nat → ClassId) (b : Nat) (as : List Nat) (c : xe_c) (e : va_E) : Prop := match c.1 with
  | 0 => ∃ fs : List Value, e = .inr (c.2.1, fs) ∧ xe_w b as c.2.2.1 fs
  | 1 => ∃ f : Nat → Int32, e = .inl (E 0, c.2.1, .inl f) ∧ ∀ k, xe_g b as (xe_ag c.2.2.2.2 c.2.2.2.1 k) (.int (f k))
  | 2 => ∃ f : Nat → Int32, e = .inl (E 1, c.2.1, .inl f) ∧ ∀ k, xe_g b as (xe_ag c.2.2.2.2 c.2.2.2.1 k) (.int (f k))
  | 3 => ∃ f : Nat → Int64, e = .inl (E 2, c.2.1, .inr (.inl f)) ∧ ∀ k, xe_g b as (xe_ag c.2.2.2.2 c.2.2.2.1 k) (.long (f k))
  | 4 => ∃ f : Nat → Option Nat, e = .inl (E 3, c.2.1, .inr (.inr (.inr (.inr f)))) ∧ ∀ k, xe_g b as (xe_ag c.2.2.2.2 c.2.2.2.1 k) (va_rf (f k))
  | _ => False
theorem xe_r_m {E : Nat → ClassId} {b : Nat} {as as2 : List Nat} (hm : xe_m as as2) {c : xe_c} {e : va_E} (h : xe_r E b as c e) : xe_r E b as2 c e := by
  unfold xe_r at h ⊢
  split <;> simp_all only []
  · obtain ⟨fs, h1, h2⟩ := h
    exact ⟨fs, h1, xe_w_m hm h2⟩
  · obtain ⟨f, h1, h2⟩ := h
    exact ⟨f, h1, fun k => xe_g_m hm (h2 k)⟩
  · obtain ⟨f, h1, h2⟩ := h
    exact ⟨f, h1, fun k => xe_g_m hm (h2 k)⟩
  · obtain ⟨f, h1, h2⟩ := h
    exact ⟨f, h1, fun k => xe_g_m hm (h2 k)⟩
  · obtain ⟨f, h1, h2⟩ := h
    exact ⟨f, h1, fun k => xe_g_m hm (h2 k)⟩
/-! a world as a tree of 512 places, by the low bit first -/
def xt_t (α : Type) : Nat → Type
  | 0 => α
  | n + 1 => xt_t α n × xt_t α n
def xt_f {α : Type} (a : α) : (n : Nat) → xt_t α n
  | 0 => a
  | n + 1 => (xt_f a n, xt_f a n)
def xt_g {α : Type} : (n : Nat) → xt_t α n → Nat → α
  | 0, a, _ => a
  | n + 1, t, i => match i % 2 with
    | 0 => xt_g n t.1 (i / 2)
    | _ => xt_g n t.2 (i / 2)
def xt_s {α : Type} : (n : Nat) → xt_t α n → Nat → α → xt_t α n
  | 0, _, _, c => c
  | n + 1, t, i, c => match i % 2 with
    | 0 => (xt_s n t.1 (i / 2) c, t.2)
    | _ => (t.1, xt_s n t.2 (i / 2) c)
theorem xt_sA {α : Type} {n : Nat} (a b : xt_t α n) {i : Nat} (c : α) (h : i % 2 = 0) : xt_s (n + 1) (a, b) i c = (xt_s n a (i / 2) c, b) := by
  show (match i % 2 with
    | 0 => (xt_s n a (i / 2) c, b)
    | _ => (a, xt_s n b (i / 2) c)) = _
  rw [h]
  rfl
theorem xt_sB {α : Type} {n : Nat} (a b : xt_t α n) {i : Nat} (c : α) (h : i % 2 = 1) : xt_s (n + 1) (a, b) i c = (a, xt_s n b (i / 2) c) := by
  show (match i % 2 with
    | 0 => (xt_s n a (i / 2) c, b)
    | _ => (a, xt_s n b (i / 2) c)) = _
  rw [h]
  rfl
theorem xt_gA {α : Type} {n : Nat} (a b : xt_t α n) {i : Nat} (h : i % 2 = 0) : xt_g (n + 1) (a, b) i = xt_g n a (i / 2) := by
  show (match i % 2 with
    | 0 => xt_g n a (i / 2)
    | _ => xt_g n b (i / 2)) = _
  rw [h]
  rfl
theorem xt_gB {α : Type} {n : Nat} (a b : xt_t α n) {i : Nat} (h : i % 2 = 1) : xt_g (n + 1) (a, b) i = xt_g n b (i / 2) := by
  show (match i % 2 with
    | 0 => xt_g n a (i / 2)
    | _ => xt_g n b (i / 2)) = _
  rw [h]
  rfl
theorem xt_gs {α : Type} (c : α) : ∀ (n : Nat) (t : xt_t α n) (i j : Nat), i < 2 ^ n → j < 2 ^ n → xt_g n (xt_s n t i c) j = if i = j then c else xt_g n t j
  | 0, t, i, j, hi, hj => by
    have : i = j := by omega
    rw [if_pos this]
    rfl
  | n + 1, (t1, t2), i, j, hi, hj => by
    have hi2 : i / 2 < 2 ^ n := by rw [Nat.pow_succ] at hi; omega
    have hj2 : j / 2 < 2 ^ n := by rw [Nat.pow_succ] at hj; omega
    rcases Nat.mod_two_eq_zero_or_one i with a | a <;> rcases Nat.mod_two_eq_zero_or_one j with b | b
    · rw [xt_sA t1 t2 c a, xt_gA _ _ b, xt_gA _ _ b, xt_gs c n t1 _ _ hi2 hj2]
      by_cases e : i / 2 = j / 2
      · rw [if_pos e, if_pos (by omega)]
      · rw [if_neg e, if_neg (by omega)]
    · rw [xt_sA t1 t2 c a, xt_gB _ _ b, xt_gB _ _ b, if_neg (by omega)]
    · rw [xt_sB t1 t2 c a, xt_gA _ _ b, xt_gA _ _ b, if_neg (by omega)]
    · rw [xt_sB t1 t2 c a, xt_gB _ _ b, xt_gB _ _ b, xt_gs c n t2 _ _ hi2 hj2]
      by_cases e : i / 2 = j / 2
      · rw [if_pos e, if_pos (by omega)]
      · rw [if_neg e, if_neg (by omega)]
def xt_k {α β : Type} : (n : Nat) → xt_t α n → Nat → α → (xt_t α n → β) → β
  | 0, _, _, c, k => k c
  | n + 1, t, i, c, k => match (show xt_t α n × xt_t α n from t) with
    | (a, b) => match i % 2 with
      | 0 => xt_k n a (i / 2) c (fun a2 => k (a2, b))
      | _ => xt_k n b (i / 2) c (fun b2 => k (a, b2))
theorem xt_k_eq {α β : Type} (c : α) : ∀ (n : Nat) (t : xt_t α n) (i : Nat) (k : xt_t α n → β), xt_k n t i c k = k (xt_s n t i c)
  | 0, t, i, k => rfl
  | n + 1, (a, b), i, k => by
    show (match i % 2 with
      | 0 => xt_k n a (i / 2) c (fun a2 => k (a2, b))
      | _ => xt_k n b (i / 2) c (fun b2 => k (a, b2))) = _
    rcases Nat.mod_two_eq_zero_or_one i with z | z
    · rw [xt_sA a b c z, z]
      exact xt_k_eq c n a _ _
    · rw [xt_sB a b c z, z]
      exact xt_k_eq c n b _ _
abbrev xe_h : Type := Nat × xt_t xe_c 9
def xh_0 : xe_h := (0, xt_f (9, 0, [], (2, 0, 0), []) 9)
def xh_g (σ : xe_h) (r : Nat) : Option xe_c := match Nat.ble (r + 1) σ.1 with
  | true => some (xt_g 9 σ.2 r)
  | false => none
def xh_s (σ : xe_h) (r : Nat) (c : xe_c) : xe_h := (σ.1, xt_s 9 σ.2 r c)
def xh_p (σ : xe_h) (c : xe_c) : xe_h := (σ.1 + 1, xt_s 9 σ.2 σ.1 c)
def xh_k {β : Type} (σ : xe_h) (r : Nat) (c : xe_c) (k : xe_h → β) : β := xt_k 9 σ.2 r c (fun t => k (σ.1, t))
theorem xh_k_eq {β : Type} (σ : xe_h) (r : Nat) (c : xe_c) (k : xe_h → β) : xh_k σ r c k = k (xh_s σ r c) := xt_k_eq c 9 σ.2 r _
def xh_q {β : Type} (σ : xe_h) (c : xe_c) (k : xe_h → β) : β := xe_f (σ.1 + 1) (fun n => xt_k 9 σ.2 σ.1 c (fun t => k (n, t)))
theorem xh_q_eq {β : Type} (σ : xe_h) (c : xe_c) (k : xe_h → β) : xh_q σ c k = k (xh_p σ c) := (xe_f_eq _ _).trans (xt_k_eq c 9 σ.2 σ.1 _)
theorem xh_lt {σ : xe_h} {r : Nat} {c : xe_c} (h : xh_g σ r = some c) : r < σ.1 ∧ xt_g 9 σ.2 r = c := by
  unfold xh_g at h
  split at h
  · next u =>
    cases h
    exact ⟨Nat.le_of_ble_eq_true u, rfl⟩
  · cases h
def xe_R (E : Nat → ClassId) (b : Nat) (as : List Nat) (σ : xe_h) (ws : va_W) : Prop := ws.map (fun q => q.1) = as ∧ ws.length = σ.1 ∧ σ.1 ≤ 512 ∧ ∀ (k : Nat) (c : xe_c), xh_g σ k = some c → ∃ (q : Nat) (e : va_E), ws[k]? = some (q, e) ∧ xe_r E b as c e
theorem xe_R_at {E : Nat → ClassId} {b : Nat} {as : List Nat} {σ : xe_h} {ws : va_W} (h : xe_R E b as σ ws) {r q : Nat} {c : xe_c} (hr : as[r]? = some q) (hc : xh_g σ r = some c) : ∃ e : va_E, ws[r]? = some (q, e) ∧ xe_r E b as c e := by
  obtain ⟨q2, e, h1, h2⟩ := h.2.2.2 r c hc
  rw [← h.1, List.getElem?_map, h1] at hr
  cases hr
  exact ⟨e, h1, h2⟩
theorem xe_R_set {E : Nat → ClassId} {b : Nat} {as : List Nat} {σ : xe_h} {ws : va_W} (h : xe_R E b as σ ws) {r q : Nat} {e0 e : va_E} {c : xe_c} (hw : ws[r]? = some (q, e0)) (hr : xe_r E b as c e) : xe_R E b as (xh_s σ r c) (ws.set r (q, e)) := by
  have hl : r < ws.length := (List.getElem?_eq_some_iff.mp hw).1
  refine ⟨?_, by rw [List.length_set]; exact h.2.1, h.2.2.1, fun k c2 hk => ?_⟩
  · rw [List.map_set, ← h.1]
    have h1 : (ws.map (fun q => q.1))[r]? = some q := by rw [List.getElem?_map, hw]; rfl
    obtain ⟨h2, h3⟩ := List.getElem?_eq_some_iff.mp h1
    have h4 := List.set_getElem_self h2
    rw [h3] at h4
    exact h4
  · obtain ⟨k1, k2⟩ := xh_lt hk
    have k1 : k < σ.1 := k1
    have h5 := h.2.1
    have h6 := h.2.2.1
    have k2 : xt_g 9 (xt_s 9 σ.2 r c) k = c2 := k2
    rw [xt_gs c 9 σ.2 r k (by omega) (by omega)] at k2
    by_cases e : r = k
    · subst e
      rw [if_pos rfl] at k2
      subst k2
      exact ⟨q, _, by rw [List.getElem?_set_self hl], hr⟩
    · rw [if_neg e] at k2
      have hg : xh_g σ k = some c2 := by
        unfold xh_g
        rw [show Nat.ble (k + 1) σ.1 = true from Nat.ble_eq_true_of_le k1]
        dsimp only
        rw [k2]
      obtain ⟨q2, e2, h1, h2⟩ := h.2.2.2 k c2 hg
      exact ⟨q2, e2, by rw [List.getElem?_set_ne e]; exact h1, h2⟩
theorem xe_R_push {E : Nat → ClassId} {b : Nat} {as : List Nat} {σ : xe_h} {ws : va_W} (h : xe_R E b as σ ws) (hs : σ.1 < 512) (q : Nat) {e : va_E} {c : xe_c} (hr : xe_r E b (as ++ [q]) c e) : xe_R E b (as ++ [q]) (xh_p σ c) (ws ++ [(q, e)]) := by
  refine ⟨by rw [List.map_append, h.1]; rfl, by rw [List.length_append, h.2.1]; rfl, hs, fun k c2 hk => ?_⟩
  obtain ⟨k1, k2⟩ := xh_lt hk
  have k1 : k < σ.1 + 1 := k1
  have k2 : xt_g 9 (xt_s 9 σ.2 σ.1 c) k = c2 := k2
  rw [xt_gs c 9 σ.2 σ.1 k (by omega) (by omega)] at k2
  by_cases z : σ.1 = k
  · rw [if_pos z] at k2
    subst k2
    refine ⟨q, e, ?_, hr⟩
    rw [List.getElem?_append_right (by rw [h.2.1]; omega), h.2.1, z, Nat.sub_self]
    rfl
  · rw [if_neg z] at k2
    have hg : xh_g σ k = some c2 := by
      unfold xh_g
      rw [show Nat.ble (k + 1) σ.1 = true from Nat.ble_eq_true_of_le (by omega)]
      dsimp only
      rw [k2]
    obtain ⟨q2, e2, h1, h2⟩ := h.2.2.2 k c2 hg
    exact ⟨q2, e2, by rw [List.getElem?_append_left (by rw [h.2.1]; omega)]; exact h1, xe_r_m (xe_m_app _ _) h2⟩
theorem xe_R_len {E : Nat → ClassId} {b : Nat} {as : List Nat} {σ : xe_h} {ws : va_W} (h : xe_R E b as σ ws) : as.length = σ.1 := by rw [← h.1, List.length_map, h.2.1]
theorem xe_R_new {E : Nat → ClassId} {b : Nat} {as : List Nat} {σ : xe_h} {ws : va_W} (h : xe_R E b as σ ws) (q : Nat) : (as ++ [q])[σ.1]? = some q := by
  rw [List.getElem?_append_right (by rw [xe_R_len h]; exact Nat.le_refl _), xe_R_len h, Nat.sub_self]
  rfl
/-- the kinds of cells, one at a time -/
theorem xe_r0 {E : Nat → ClassId} {b : Nat} {as : List Nat} {c : xe_c} {e : va_E} (t : (c.1 == 0) = true) (h : xe_r E b as c e) : ∃ fs : List Value, e = .inr (c.2.1, fs) ∧ xe_w b as c.2.2.1 fs := by
  have z : c.1 = 0 := by simpa using t
  unfold xe_r at h
  rw [z] at h
  exact h
theorem xe_r1 {E : Nat → ClassId} {b : Nat} {as : List Nat} {c : xe_c} {e : va_E} (t : (c.1 == 1) = true) (h : xe_r E b as c e) : ∃ f : Nat → Int32, e = .inl (E 0, c.2.1, .inl f) ∧ ∀ k, xe_g b as (xe_ag c.2.2.2.2 c.2.2.2.1 k) (.int (f k)) := by
  have z : c.1 = 1 := by simpa using t
  unfold xe_r at h
  rw [z] at h
  exact h
theorem xe_r2 {E : Nat → ClassId} {b : Nat} {as : List Nat} {c : xe_c} {e : va_E} (t : (c.1 == 2) = true) (h : xe_r E b as c e) : ∃ f : Nat → Int32, e = .inl (E 1, c.2.1, .inl f) ∧ ∀ k, xe_g b as (xe_ag c.2.2.2.2 c.2.2.2.1 k) (.int (f k)) := by
  have z : c.1 = 2 := by simpa using t
  unfold xe_r at h
  rw [z] at h
  exact h
theorem xe_r3 {E : Nat → ClassId} {b : Nat} {as : List Nat} {c : xe_c} {e : va_E} (t : (c.1 == 3) = true) (h : xe_r E b as c e) : ∃ f : Nat → Int64, e = .inl (E 2, c.2.1, .inr (.inl f)) ∧ ∀ k, xe_g b as (xe_ag c.2.2.2.2 c.2.2.2.1 k) (.long (f k)) := by
  have z : c.1 = 3 := by simpa using t
  unfold xe_r at h
  rw [z] at h
  exact h
theorem xe_r4 {E : Nat → ClassId} {b : Nat} {as : List Nat} {c : xe_c} {e : va_E} (t : (c.1 == 4) = true) (h : xe_r E b as c e) : ∃ f : Nat → Option Nat, e = .inl (E 3, c.2.1, .inr (.inr (.inr (.inr f)))) ∧ ∀ k, xe_g b as (xe_ag c.2.2.2.2 c.2.2.2.1 k) (va_rf (f k)) := by
  have z : c.1 = 4 := by simpa using t
  unfold xe_r at h
  rw [z] at h
  exact h
/-- no place of the world is taken for another -/
def xe_tys (E : Nat → ClassId) : List (ClassId × FieldType) := [(E 0, .int), (E 1, .byte), (E 2, .long), (E 3, .object "SlideNight$Slide")]
end
