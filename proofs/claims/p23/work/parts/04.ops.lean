/-! reckoning with values between bounds -/
def xe_n (n : Nat) : xe_v := (0, n, n)
def xe_nl (n : Nat) : xe_v := (1, n, n)
def xe_u1 (f : Int32 → Int32) (lo hi : Nat) (st : List xe_v) : Option (List xe_v) := match st with
  | a :: r => if a.1 == 0 then (if a.2.1 == a.2.2 then xe_f (xe_i (f (xe_j a.2.1))) (fun n => some ((0, n, n) :: r)) else some ((0, lo, hi) :: r)) else none
  | _ => none
def xe_u2 (f : Int32 → Int32 → Int32) (st : List xe_v) : Option (List xe_v) := match st with
  | b :: a :: r => if a.1 == 0 && b.1 == 0 then (if a.2.1 == a.2.2 && b.2.1 == b.2.2 then xe_f (xe_i (f (xe_j a.2.1) (xe_j b.2.1))) (fun n => some ((0, n, n) :: r)) else some ((0, 0, 4294967295) :: r)) else none
  | _ => none
def xe_d2 (f : Int32 → Int32 → Int32) (st : List xe_v) : Option (List xe_v) := match st with
  | b :: a :: r => if a.1 == 0 && b.1 == 0 && (Nat.ble 2147483649 b.2.1 || Nat.ble b.2.2 2147483647) then (if a.2.1 == a.2.2 && b.2.1 == b.2.2 then xe_f (xe_i (f (xe_j a.2.1) (xe_j b.2.1))) (fun n => some ((0, n, n) :: r)) else some ((0, 0, 4294967295) :: r)) else none
  | _ => none
def xe_m1 (f : Int64 → Int64) (st : List xe_v) : Option (List xe_v) := match st with
  | a :: r => if a.1 == 1 then (if a.2.1 == a.2.2 then xe_f (xe_l (f (xe_k a.2.1))) (fun n => some ((1, n, n) :: r)) else some ((1, 0, 18446744073709551615) :: r)) else none
  | _ => none
def xe_m2 (f : Int64 → Int64 → Int64) (st : List xe_v) : Option (List xe_v) := match st with
  | b :: a :: r => if a.1 == 1 && b.1 == 1 then (if a.2.1 == a.2.2 && b.2.1 == b.2.2 then xe_f (xe_l (f (xe_k a.2.1) (xe_k b.2.1))) (fun n => some ((1, n, n) :: r)) else some ((1, 0, 18446744073709551615) :: r)) else none
  | _ => none
def xe_e2 (f : Int64 → Int64 → Int64) (st : List xe_v) : Option (List xe_v) := match st with
  | b :: a :: r => if a.1 == 1 && b.1 == 1 && (Nat.ble 9223372036854775809 b.2.1 || Nat.ble b.2.2 9223372036854775807) then (if a.2.1 == a.2.2 && b.2.1 == b.2.2 then xe_f (xe_l (f (xe_k a.2.1) (xe_k b.2.1))) (fun n => some ((1, n, n) :: r)) else some ((1, 0, 18446744073709551615) :: r)) else none
  | _ => none
def xe_il (f : Int32 → Int64) (st : List xe_v) : Option (List xe_v) := match st with
  | a :: r => if a.1 == 0 then (if a.2.1 == a.2.2 then xe_f (xe_l (f (xe_j a.2.1))) (fun n => some ((1, n, n) :: r)) else some ((1, 0, 18446744073709551615) :: r)) else none
  | _ => none
def xe_li (f : Int64 → Int32) (st : List xe_v) : Option (List xe_v) := match st with
  | a :: r => if a.1 == 1 then (if a.2.1 == a.2.2 then xe_f (xe_i (f (xe_k a.2.1))) (fun n => some ((0, n, n) :: r)) else some ((0, 0, 4294967295) :: r)) else none
  | _ => none
def xe_lli (f : Int64 → Int64 → Int32) (st : List xe_v) : Option (List xe_v) := match st with
  | b :: a :: r => if a.1 == 1 && b.1 == 1 then (if a.2.1 == a.2.2 && b.2.1 == b.2.2 then xe_f (xe_i (f (xe_k a.2.1) (xe_k b.2.1))) (fun n => some ((0, n, n) :: r)) else some ((0, 0, 4294967295) :: r)) else none
  | _ => none
theorem xe_kn {a : xe_v} {x : Int32} (h1 : a.2.1 ≤ xe_i x) (h2 : xe_i x ≤ a.2.2) (e : (a.2.1 == a.2.2) = true) : xe_j a.2.1 = x := by
  have e : a.2.1 = a.2.2 := by simpa using e
  have : xe_i x = a.2.1 := by omega
  rw [← this, xe_ji]
theorem xe_kN {a : xe_v} {x : Int64} (h1 : a.2.1 ≤ xe_l x) (h2 : xe_l x ≤ a.2.2) (e : (a.2.1 == a.2.2) = true) : xe_k a.2.1 = x := by
  have e : a.2.1 = a.2.2 := by simpa using e
  have : xe_l x = a.2.1 := by omega
  rw [← this, xe_kl]
section XOPS
variable {b : Nat} {as : List Nat} {st st2 : List xe_v} {stc : List Value} {P1 P2 : List Value → Prop}
theorem xe_u1_ok {f : Int32 → Int32} {lo hi : Nat} (hr : ∀ x, lo ≤ xe_i (f x) ∧ xe_i (f x) ≤ hi) (h : xe_u1 f lo hi st = some st2) (hw : xe_w b as st stc) (row : ∀ x rest, P2 (.int (f x) :: rest) → P1 (.int x :: rest)) (kk : ∀ st3, xe_w b as st2 st3 → P2 st3) : P1 stc := by
  unfold xe_u1 at h
  split at h
  · next a r =>
    obtain ⟨v, m, rfl, hg, hm⟩ := xe_w_cons hw
    split at h
    · next t =>
      obtain ⟨x, rfl, q1, q2⟩ := xe_g0 t hg
      refine row x m (kk _ ?_)
      split at h
      · next e =>
        rw [xe_f_eq, xe_kn q1 q2 e] at h
        cases h
        exact ⟨xe_gi _, hm⟩
      · cases h
        exact ⟨⟨_, rfl, (hr x).1, (hr x).2⟩, hm⟩
    · cases h
  · cases h
theorem xe_u2_ok {f : Int32 → Int32 → Int32} (h : xe_u2 f st = some st2) (hw : xe_w b as st stc) (row : ∀ x y rest, P2 (.int (f x y) :: rest) → P1 (.int y :: .int x :: rest)) (kk : ∀ st3, xe_w b as st2 st3 → P2 st3) : P1 stc := by
  unfold xe_u2 at h
  split at h
  · next b2 a2 r =>
    obtain ⟨v, m, rfl, hg, hm⟩ := xe_w_cons hw
    obtain ⟨v2, m2, rfl, hg2, hm2⟩ := xe_w_cons hm
    split at h
    · next t =>
      rw [Bool.and_eq_true] at t
      obtain ⟨x, rfl, q1, q2⟩ := xe_g0 t.1 hg2
      obtain ⟨y, rfl, q3, q4⟩ := xe_g0 t.2 hg
      refine row x y m2 (kk _ ?_)
      split at h
      · next e =>
        rw [Bool.and_eq_true] at e
        rw [xe_f_eq, xe_kn q1 q2 e.1, xe_kn q3 q4 e.2] at h
        cases h
        exact ⟨xe_gi _, hm2⟩
      · cases h
        exact ⟨xe_gt _, hm2⟩
    · cases h
  · cases h
theorem xe_d2_ok {f : Int32 → Int32 → Int32} (h : xe_d2 f st = some st2) (hw : xe_w b as st stc) (row : ∀ x y rest, ¬ y = 0 → P2 (.int (f x y) :: rest) → P1 (.int y :: .int x :: rest)) (kk : ∀ st3, xe_w b as st2 st3 → P2 st3) : P1 stc := by
  unfold xe_d2 at h
  split at h
  · next b2 a2 r =>
    obtain ⟨v, m, rfl, hg, hm⟩ := xe_w_cons hw
    obtain ⟨v2, m2, rfl, hg2, hm2⟩ := xe_w_cons hm
    split at h
    · next t =>
      rw [Bool.and_eq_true, Bool.and_eq_true, Bool.or_eq_true] at t
      obtain ⟨x, rfl, q1, q2⟩ := xe_g0 t.1.1 hg2
      obtain ⟨y, rfl, q3, q4⟩ := xe_g0 t.1.2 hg
      have hne : ¬ y = 0 := by
        intro z
        have z2 : xe_i y = 2147483648 := by rw [z]; decide +kernel
        rcases t.2 with u | u
        · have := Nat.le_of_ble_eq_true u
          omega
        · have := Nat.le_of_ble_eq_true u
          omega
      refine row x y m2 hne (kk _ ?_)
      split at h
      · next e =>
        rw [Bool.and_eq_true] at e
        rw [xe_f_eq, xe_kn q1 q2 e.1, xe_kn q3 q4 e.2] at h
        cases h
        exact ⟨xe_gi _, hm2⟩
      · cases h
        exact ⟨xe_gt _, hm2⟩
    · cases h
  · cases h
theorem xe_m1_ok {f : Int64 → Int64} (h : xe_m1 f st = some st2) (hw : xe_w b as st stc) (row : ∀ x rest, P2 (.long (f x) :: rest) → P1 (.long x :: rest)) (kk : ∀ st3, xe_w b as st2 st3 → P2 st3) : P1 stc := by
  unfold xe_m1 at h
  split at h
  · next a r =>
    obtain ⟨v, m, rfl, hg, hm⟩ := xe_w_cons hw
    split at h
    · next t =>
      obtain ⟨x, rfl, q1, q2⟩ := xe_g1 t hg
      refine row x m (kk _ ?_)
      split at h
      · next e =>
        rw [xe_f_eq, xe_kN q1 q2 e] at h
        cases h
        exact ⟨xe_gl _, hm⟩
      · cases h
        exact ⟨xe_gtl _, hm⟩
    · cases h
  · cases h
theorem xe_m2_ok {f : Int64 → Int64 → Int64} (h : xe_m2 f st = some st2) (hw : xe_w b as st stc) (row : ∀ x y rest, P2 (.long (f x y) :: rest) → P1 (.long y :: .long x :: rest)) (kk : ∀ st3, xe_w b as st2 st3 → P2 st3) : P1 stc := by
  unfold xe_m2 at h
  split at h
  · next b2 a2 r =>
    obtain ⟨v, m, rfl, hg, hm⟩ := xe_w_cons hw
    obtain ⟨v2, m2, rfl, hg2, hm2⟩ := xe_w_cons hm
    split at h
    · next t =>
      rw [Bool.and_eq_true] at t
      obtain ⟨x, rfl, q1, q2⟩ := xe_g1 t.1 hg2
      obtain ⟨y, rfl, q3, q4⟩ := xe_g1 t.2 hg
      refine row x y m2 (kk _ ?_)
      split at h
      · next e =>
        rw [Bool.and_eq_true] at e
        rw [xe_f_eq, xe_kN q1 q2 e.1, xe_kN q3 q4 e.2] at h
        cases h
        exact ⟨xe_gl _, hm2⟩
      · cases h
        exact ⟨xe_gtl _, hm2⟩
    · cases h
  · cases h
theorem xe_e2_ok {f : Int64 → Int64 → Int64} (h : xe_e2 f st = some st2) (hw : xe_w b as st stc) (row : ∀ x y rest, ¬ y = 0 → P2 (.long (f x y) :: rest) → P1 (.long y :: .long x :: rest)) (kk : ∀ st3, xe_w b as st2 st3 → P2 st3) : P1 stc := by
  unfold xe_e2 at h
  split at h
  · next b2 a2 r =>
    obtain ⟨v, m, rfl, hg, hm⟩ := xe_w_cons hw
    obtain ⟨v2, m2, rfl, hg2, hm2⟩ := xe_w_cons hm
    split at h
    · next t =>
      rw [Bool.and_eq_true, Bool.and_eq_true, Bool.or_eq_true] at t
      obtain ⟨x, rfl, q1, q2⟩ := xe_g1 t.1.1 hg2
      obtain ⟨y, rfl, q3, q4⟩ := xe_g1 t.1.2 hg
      have hne : ¬ y = 0 := by
        intro z
        have z2 : xe_l y = 9223372036854775808 := by rw [z]; decide +kernel
        rcases t.2 with u | u
        · have := Nat.le_of_ble_eq_true u
          omega
        · have := Nat.le_of_ble_eq_true u
          omega
      refine row x y m2 hne (kk _ ?_)
      split at h
      · next e =>
        rw [Bool.and_eq_true] at e
        rw [xe_f_eq, xe_kN q1 q2 e.1, xe_kN q3 q4 e.2] at h
        cases h
        exact ⟨xe_gl _, hm2⟩
      · cases h
        exact ⟨xe_gtl _, hm2⟩
    · cases h
  · cases h
theorem xe_il_ok {f : Int32 → Int64} (h : xe_il f st = some st2) (hw : xe_w b as st stc) (row : ∀ x rest, P2 (.long (f x) :: rest) → P1 (.int x :: rest)) (kk : ∀ st3, xe_w b as st2 st3 → P2 st3) : P1 stc := by
  unfold xe_il at h
  split at h
  · next a r =>
    obtain ⟨v, m, rfl, hg, hm⟩ := xe_w_cons hw
    split at h
    · next t =>
      obtain ⟨x, rfl, q1, q2⟩ := xe_g0 t hg
      refine row x m (kk _ ?_)
      split at h
      · next e =>
        rw [xe_f_eq, xe_kn q1 q2 e] at h
        cases h
        exact ⟨xe_gl _, hm⟩
      · cases h
        exact ⟨xe_gtl _, hm⟩
    · cases h
  · cases h
theorem xe_li_ok {f : Int64 → Int32} (h : xe_li f st = some st2) (hw : xe_w b as st stc) (row : ∀ x rest, P2 (.int (f x) :: rest) → P1 (.long x :: rest)) (kk : ∀ st3, xe_w b as st2 st3 → P2 st3) : P1 stc := by
  unfold xe_li at h
  split at h
  · next a r =>
    obtain ⟨v, m, rfl, hg, hm⟩ := xe_w_cons hw
    split at h
    · next t =>
      obtain ⟨x, rfl, q1, q2⟩ := xe_g1 t hg
      refine row x m (kk _ ?_)
      split at h
      · next e =>
        rw [xe_f_eq, xe_kN q1 q2 e] at h
        cases h
        exact ⟨xe_gi _, hm⟩
      · cases h
        exact ⟨xe_gt _, hm⟩
    · cases h
  · cases h
theorem xe_lli_ok {f : Int64 → Int64 → Int32} (h : xe_lli f st = some st2) (hw : xe_w b as st stc) (row : ∀ x y rest, P2 (.int (f x y) :: rest) → P1 (.long y :: .long x :: rest)) (kk : ∀ st3, xe_w b as st2 st3 → P2 st3) : P1 stc := by
  unfold xe_lli at h
  split at h
  · next b2 a2 r =>
    obtain ⟨v, m, rfl, hg, hm⟩ := xe_w_cons hw
    obtain ⟨v2, m2, rfl, hg2, hm2⟩ := xe_w_cons hm
    split at h
    · next t =>
      rw [Bool.and_eq_true] at t
      obtain ⟨x, rfl, q1, q2⟩ := xe_g1 t.1 hg2
      obtain ⟨y, rfl, q3, q4⟩ := xe_g1 t.2 hg
      refine row x y m2 (kk _ ?_)
      split at h
      · next e =>
        rw [Bool.and_eq_true] at e
        rw [xe_f_eq, xe_kN q1 q2 e.1, xe_kN q3 q4 e.2] at h
        cases h
        exact ⟨xe_gi _, hm2⟩
      · cases h
        exact ⟨xe_gt _, hm2⟩
    · cases h
  · cases h
end XOPS
theorem xe_top (f : Int32 → Int32) (x : Int32) : 0 ≤ xe_i (f x) ∧ xe_i (f x) ≤ 4294967295 := ⟨Nat.zero_le _, by have := xe_i_lt (f x); omega⟩
theorem xe_byte (x : Int32) : 2147483520 ≤ xe_i x.toInt8.toInt32 ∧ xe_i x.toInt8.toInt32 ≤ 2147483775 := by
  have h := xe_ti x.toInt8.toInt32
  rw [Int8.toInt_toInt32] at h
  have h1 := x.toInt8.le_toInt
  have h2 := x.toInt8.toInt_lt
  omega
/-- how two ints compare: 0 never, 1 always, 2 who knows -/
def xe_clt (a b : xe_v) : Nat := if Nat.ble (a.2.2 + 1) b.2.1 then 1 else if Nat.ble b.2.2 a.2.1 then 0 else 2
def xe_ceq (a b : xe_v) : Nat := if a.2.1 == a.2.2 && b.2.1 == b.2.2 then (if a.2.1 == b.2.1 then 1 else 0) else if Nat.ble (a.2.2 + 1) b.2.1 || Nat.ble (b.2.2 + 1) a.2.1 then 0 else 2
def xe_not (n : Nat) : Nat := if n == 0 then 1 else if n == 1 then 0 else 2
def xe_cmp (c : Jvm.ClassFile.Cond) (a b : xe_v) : Nat := match c with
  | .eq => xe_ceq a b
  | .ne => xe_not (xe_ceq a b)
  | .lt => xe_clt a b
  | .ge => xe_not (xe_clt a b)
  | .gt => xe_clt b a
  | .le => xe_not (xe_clt b a)
def xe_two (n t f : Nat) : List Nat := if n == 1 then [t] else if n == 0 then [f] else [t, f]
theorem xe_clt_ok {a b : xe_v} {x y : Int32} (h1 : a.2.1 ≤ xe_i x) (h2 : xe_i x ≤ a.2.2) (h3 : b.2.1 ≤ xe_i y) (h4 : xe_i y ≤ b.2.2) : (xe_clt a b = 0 → ¬ x < y) ∧ (xe_clt a b = 1 → x < y) := by
  unfold xe_clt
  rw [xe_lt]
  split
  · next u =>
    have := Nat.le_of_ble_eq_true u
    exact ⟨fun z => (by cases z), fun _ => by omega⟩
  · split
    · next u =>
      have := Nat.le_of_ble_eq_true u
      exact ⟨fun _ => by omega, fun z => by cases z⟩
    · exact ⟨fun z => (by cases z), fun z => by cases z⟩
theorem xe_ceq_ok {a b : xe_v} {x y : Int32} (h1 : a.2.1 ≤ xe_i x) (h2 : xe_i x ≤ a.2.2) (h3 : b.2.1 ≤ xe_i y) (h4 : xe_i y ≤ b.2.2) : (xe_ceq a b = 0 → ¬ x = y) ∧ (xe_ceq a b = 1 → x = y) := by
  unfold xe_ceq
  rw [xe_eq]
  split
  · next u =>
    rw [Bool.and_eq_true] at u
    have e1 : a.2.1 = a.2.2 := by simpa using u.1
    have e2 : b.2.1 = b.2.2 := by simpa using u.2
    split
    · next w =>
      have e3 : a.2.1 = b.2.1 := by simpa using w
      exact ⟨fun z => (by cases z), fun _ => by omega⟩
    · next w =>
      have e3 : ¬ a.2.1 = b.2.1 := by simpa using w
      exact ⟨fun _ => by omega, fun z => by cases z⟩
  · split
    · next u =>
      rw [Bool.or_eq_true] at u
      refine ⟨fun _ => ?_, fun z => by cases z⟩
      rcases u with u | u
      · have := Nat.le_of_ble_eq_true u
        omega
      · have := Nat.le_of_ble_eq_true u
        omega
    · exact ⟨fun z => (by cases z), fun z => by cases z⟩
theorem xe_not_ok {n : Nat} {p : Prop} (h : (n = 0 → ¬ p) ∧ (n = 1 → p)) : (xe_not n = 0 → ¬ ¬ p) ∧ (xe_not n = 1 → ¬ p) := by
  unfold xe_not
  split
  · next e => exact ⟨fun z => (by cases z), fun _ => h.1 (by simpa using e)⟩
  · split
    · next e => exact ⟨fun _ k => k (h.2 (by simpa using e)), fun z => by cases z⟩
    · exact ⟨fun z => (by cases z), fun z => by cases z⟩
/-- of two ways on, the one that is taken is among those named -/
theorem xe_two_ok {n t f : Nat} {p : Prop} {G : Prop} {K : Nat → Prop} (h : (n = 0 → ¬ p) ∧ (n = 1 → p)) (row : (p → K t) → (¬ p → K f) → G) (kk : ∀ q ∈ xe_two n t f, K q) : G := by
  refine row (fun hp => kk t ?_) (fun hp => kk f ?_)
  · unfold xe_two
    split
    · exact List.mem_cons_self
    · split
      · next e => exact absurd hp (h.1 (by simpa using e))
      · exact List.mem_cons_self
  · unfold xe_two
    split
    · next e => exact absurd (h.2 (by simpa using e)) hp
    · split
      · exact List.mem_cons_self
      · exact List.mem_cons_of_mem _ List.mem_cons_self
