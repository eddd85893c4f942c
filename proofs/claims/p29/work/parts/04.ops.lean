section
/-! reckoning with values between bounds -/
def xe_n (n : Nat) : xe_v := (0, n, n)
def xe_nl (n : Nat) : xe_v := (1, n, n)
def xe_u1 (f : Int32 → Int32) (lo hi : Nat) (st : List xe_v) : Option (List xe_v) := match st with
  | a :: r => if a.1 == 0 then (if a.2.1 == a.2.2 then xe_f (xe_i (f (xe_j a.2.1))) (fun n => some ((0, n, n) :: r)) else some ((0, lo, hi) :: r)) else none
  | _ => none
def xe_u2 (f : Int32 → Int32 → Int32) (st : List xe_v) : Option (List xe_v) := match st with
  | b :: a :: r => if a.1 == 0 && b.1 == 0 then (if a.2.1 == a.2.2 && b.2.1 == b.2.2 then xe_f (xe_i (f (xe_j a.2.1) (xe_j b.2.1))) (fun n => some ((0, n, n) :: r)) else some ((0, 0, 4294967295) :: r)) else none
  | _ => none
def xe_d2 (f : Int32 → Int32 → Int32) (st : List xe_v) : Option (List xe_v) := match st with
  | b :: a :: r => if a.1 == 0 && b.1 == 0 && (Nat.ble 2147483649 b.2.1 || Nat.ble b.2.2 2147483647) then (if a.2.1 == a.2.2 && b.2.1 == b.2.2 then xe_f (xe_i (f (xe_j a.2.1) (xe_j b.2.1))) (fun n => some ((0, n, n) :: r)) else some ((0, 0, 4294967295) :: r)) else none
  | _ => none
def xe_m1 (f : Int64 → Int64) (st : List xe_v) : Option (List xe_v) := match st with
  | a :: r => if a.1 == 1 then (if a.2.1 == a.2.2 then xe_f (xe_l (f (xe_k a.2.1))) (fun n => some ((1, n, n) :: r)) else some ((1, 0, 18446744073709551615) :: r)) else none
  | _ => none
def xe_m2 (f : Int64 → Int64 → Int64) (st : List xe_v) : Option (List xe_v) := match st with
  | b :: a :: r => if a.1 == 1 && b.1 == 1 then (if a.2.1 == a.2.2 && b.2.1 == b.2.2 then xe_f (xe_l (f (xe_k a.2.1) (xe_k b.2.1))) (fun n => some ((1, n, n) :: r)) else some ((1, 0, 18446744073709551615) :: r)) else none
  | _ => none
def xe_e2 (f : Int64 → Int64 → Int64) (st : List xe_v) : Option (List xe_v) := match st with
  | b :: a :: r => if a.1 == 1 && b.1 == 1 && (Nat.ble 9223372036854775809 b.2.1 || Nat.ble b.2.2 9223372036854775807) then (if a.2.1 == a.2.2 && b.2.1 == b.2.2 then xe_f (xe_l (f (xe_k a.2.1) (xe_k b.2.1))) (fun n => some ((1, n, n) :: r)) else some ((1, 0, 18446744073709551615) :: r)) else none
  | _ => none
def xe_il (f : Int32 → Int64) (st : List xe_v) : Option (List xe_v) := match st with
  | a :: r => if a.1 == 0 then (if a.2.1 == a.2.2 then xe_f (xe_l (f (xe_j a.2.1))) (fun n => some ((1, n, n) :: r)) else some ((1, 0, 18446744073709551615) :: r)) else none
  | _ => none
def xe_li (f : Int64 → Int32) (st : List xe_v) : Option (List xe_v) := match st with
  | a :: r => if a.1 == 1 then (if a.2.1 == a.2.2 then xe_f (xe_i (f (xe_k a.2.1))) (fun n => some ((0, n, n) :: r)) else some ((0, 0, 4294967295) :: r)) else none
  | _ => none
def xe_lli (f : Int64 → Int64 → Int32) (st : List xe_v) : Option (List xe_v) := match st with
  | b :: a :: r => if a.1 == 1 && b.1 == 1 then (if a.2.1 == a.2.2 && b.2.1 == b.2.2 then xe_f (xe_i (f (xe_k a.2.1) (xe_k b.2.1))) (fun n => some ((0, n, n) :: r)) else some ((0, 0, 4294967295) :: r)) else none
  | _ => none
theorem xe_kn {a : xe_v} {x : Int32} (h1 : a.2.1 ≤ xe_i x) (h2 : xe_i x ≤ a.2.2) (e : (a.2.1 == a.2.2) = true) : xe_j a.2.1 = x := by
  have e : a.2.1 = a.2.2 := by simpa using e
  have : xe_i x = a.2.1 := by omega
  rw [← this, xe_ji]
theorem xe_kN {a : xe_v} {x : Int64} (h1 : a.2.1 ≤ xe_l x) (h2 : xe_l x ≤ a.2.2) (e : (a.2.1 == a.2.2) = true) : xe_k a.2.1 = x := by
  have e : a.2.1 = a.2.2 := by simpa using e
  have : xe_l x = a.2.1 := by omega
  rw [← this, xe_kl]
section XOPS
variable {b : Nat} {as : List Nat} {st st2 : List xe_v} {stc : List Value} {P1 P2 : List Value → Prop}
theorem xe_u1_ok {f : Int32 → Int32} {lo hi : Nat} (hr : ∀ x, lo ≤ xe_i (f x) ∧ xe_i (f x) ≤ hi) (h : xe_u1 f lo hi st = some st2) (hw : xe_w b as st stc) (row : ∀ x rest, P2 (.int (f x) :: rest) → P1 (.int x :: rest)) (kk : ∀ st3, xe_w b as st2 st3 → P2 st3) : P1 stc := by
  unfold xe_u1 at h
  split at h
  · next a r =>
    obtain ⟨v, m, rfl, hg, hm⟩ := xe_w_cons hw
    split at h
    · next t =>
      obtain ⟨x, rfl, q1, q2⟩ := xe_g0 t hg
      refine row x m (kk _ ?_)
      split at h
      · next e =>
        rw [xe_f_eq, xe_kn q1 q2 e] at h
        cases h
        exact ⟨xe_gi _, hm⟩
      · cases h
        exact ⟨⟨_, rfl, (hr x).1, (hr x).2⟩, hm⟩
    · cases h
  · cases h
theorem xe_u2_ok {f : Int32 → Int32 → Int32} (h : xe_u2 f st = some st2) (hw : xe_w b as st stc) (row : ∀ x y rest, P2 (.int (f x y) :: rest) → P1 (.int y :: .int x :: rest)) (kk : ∀ st3, xe_w b as st2 st3 → P2 st3) : P1 stc := by
  unfold xe_u2 at h
  split at h
  · next b2 a2 r =>
    obtain ⟨v, m, rfl, hg, hm⟩ := xe_w_cons hw
    obtain ⟨v2, m2, rfl, hg2, hm2⟩ := xe_w_cons hm
    split at h
    · next t =>
      rw [Bool.and_eq_true] at t
      obtain ⟨x, rfl, q1, q2⟩ := xe_g0 t.1 hg2
      obtain ⟨y, rfl, q3, q4⟩ := xe_g0 t.2 hg
      refine row x y m2 (kk _ ?_)
      split at h
      · next e =>
        rw [Bool.and_eq_true] at e
        rw [xe_f_eq, xe_kn q1 q2 e.1, xe_kn q3 q4 e.2] at h
        cases h
        exact ⟨xe_gi _, hm2⟩
      · cases h
        exact ⟨xe_gt _, hm2⟩
    · cases h
  · cases h
theorem xe_d2_ok {f : Int32 → Int32 → Int32} (h : xe_d2 f st = some st2) (hw : xe_w b as st stc) (row : ∀ x y rest, ¬ y = 0 → P2 (.int (f x y) :: rest) → P1 (.int y :: .int x :: rest)) (kk : ∀ st3, xe_w b as st2 st3 → P2 st3) : P1 stc := by
  unfold xe_d2 at h
  split at h
  · next b2 a2 r =>
    obtain ⟨v, m, rfl, hg, hm⟩ := xe_w_cons hw
    obtain ⟨v2, m2, rfl, hg2, hm2⟩ := xe_w_cons hm
    split at h
    · next t =>
      rw [Bool.and_eq_true, Bool.and_eq_true, Bool.or_eq_true] at t
      obtain ⟨x, rfl, q1, q2⟩ := xe_g0 t.1.1 hg2
      obtain ⟨y, rfl, q3, q4⟩ := xe_g0 t.1.2 hg
      have hne : ¬ y = 0 := by
        intro z
        have z2 : xe_i y = 2147483648 := by rw [z]; decide +kernel
        rcases t.2 with u | u
        · have := Nat.le_of_ble_eq_true u
          omega
        · have := Nat.le_of_ble_eq_true u
          omega
      refine row x y m2 hne (kk _ ?_)
      split at h
      · next e =>
        rw [Bool.and_eq_true] at e
        rw [xe_f_eq, xe_kn q1 q2 e.1, xe_kn q3 q4 e.2] at h
        cases h
        exact ⟨xe_gi _, hm2⟩
      · cases h
        exact ⟨xe_gt _, hm2⟩
    · cases h
  · cases h
theorem xe_m1_ok {f : Int64 → Int64} (h : xe_m1 f st = some st2) (hw : xe_w b as st stc) (row : ∀ x rest, P2 (.long (f x) :: rest) → P1 (.long x :: rest)) (kk : ∀ st3, xe_w b as st2 st3 → P2 st3) : P1 stc := by
  unfold xe_m1 at h
  split at h
  · next a r =>
    obtain ⟨v, m, rfl, hg, hm⟩ := xe_w_cons hw
    split at h
    · next t =>
      obtain ⟨x, rfl, q1, q2⟩ := xe_g1 t hg
      refine row x m (kk _ ?_)
      split at h
      · next e =>
        rw [xe_f_eq, xe_kN q1 q2 e] at h
        cases h
        exact ⟨xe_gl _, hm⟩
      · cases h
        exact ⟨xe_gtl _, hm⟩
    · cases h
  · cases h
theorem xe_m2_ok {f : Int64 → Int64 → Int64} (h : xe_m2 f st = some st2) (hw : xe_w b as st stc) (row : ∀ x y rest, P2 (.long (f x y) :: rest) → P1 (.long y :: .long x :: rest)) (kk : ∀ st3, xe_w b as st2 st3 → P2 st3) : P1 stc := by
  unfold xe_m2 at h
  split at h
  · next b2 a2 r =>
    obtain ⟨v, m, rfl, hg, hm⟩ := xe_w_cons hw
    obtain ⟨v2, m2, rfl, hg2, hm2⟩ := xe_w_cons hm
    split at h
    · next t =>
      rw [Bool.and_eq_true] at t
      obtain ⟨x, rfl, q1, q2⟩ := xe_g1 t.1 hg2
      obtain ⟨y, rfl, q3, q4⟩ := xe_g1 t.2 hg
      refine row x y m2 (kk _ ?_)
      split at h
      · next e =>
        rw [Bool.and_eq_true] at e
        rw [xe_f_eq, xe_kN q1 q2 e.1, xe_kN q3 q4 e.2] at h
        cases h
        exact ⟨xe_gl _, hm2⟩
      · cases h
        exact ⟨xe_gtl _, hm2⟩
    · cases h
  · cases h
theorem xe_e2_ok {f : Int64 → Int64 → Int64} (h : xe_e2 f st = some st2) (hw : xe_w b as st stc) (row : ∀ x y rest, ¬ y = 0 → P2 (.long (f x y) :: rest) → P1 (.long y :: .long x :: rest)) (kk : ∀ st3, xe_w b as st2 st3 → P2 st3) : P1 stc := by
  unfold xe_e2 at h
  split at h
  · next b2 a2 r =>
    obtain ⟨v, m, rfl, hg, hm⟩ := xe_w_cons hw
    obtain ⟨v2, m2, rfl, hg2, hm2⟩ := xe_w_cons hm
    split at h
    · next t =>
      rw [Bool.and_eq_true, Bool.and_eq_true, Bool.or_eq_true] at t
      obtain ⟨x, rfl, q1, q2⟩ := xe_g1 t.1.1 hg2
      obtain ⟨y, rfl, q3, q4⟩ := xe_g1 t.1.2 hg
      have hne : ¬ y = 0 := by
        intro z
        have z2 : xe_l y = 9223372036854775808 := by rw [z]; decide +kernel
        rcases t.2 with u | u
        · have := Nat.le_of_ble_eq_true u
          omega
        · have := Nat.le_of_ble_eq_true u
          omega
      refine row x y m2 hne (kk _ ?_)
      split at h
      · next e =>
        rw [Bool.and_eq_true] at e
        rw [xe_f_eq, xe_kN q1 q2 e.1, xe_kN q3 q4 e.2] at h
        cases h
        exact ⟨xe_gl _, hm2⟩
      · cases h
        exact ⟨xe_gtl _, hm2⟩
    · cases h
  · cases h
theorem xe_il_ok {f : Int32 → Int64} (h : xe_il f st = some st2) (hw : xe_w b as st stc) (row : ∀ x rest, P2 (.long (f x) :: rest) → P1 (.int x :: rest)) (kk : ∀ st3, xe_w b as st2 st3 → P2 st3) : P1 stc := by
  unfold xe_il at h
  split at h
  · next a r =>
    obtain ⟨v, m, rfl, hg, hm⟩ := xe_w_cons hw
    split at h
    · next t =>
      obtain ⟨x, rfl, q1, q2⟩ := xe_g0 t hg
      refine row x m (kk _ ?_)
      split at h
      · next e =>
        rw [xe_f_eq, xe_kn q1 q2 e] at h
        cases h
        exact ⟨xe_gl _, hm⟩
      · cases h
        exact ⟨xe_gtl _, hm⟩
    · cases h
  · cases h
theorem xe_li_ok {f : Int64 → Int32} (h : xe_li f st = some st2) (hw : xe_w b as st stc) (row : ∀ x rest, P2 (.int (f x) :: rest) → P1 (.long x :: rest)) (kk : ∀ st3, xe_w b as st2 st3 → P2 st3) : P1 stc := by
  unfold xe_li at h
  split at h
  · next a r =>
    obtain ⟨v, m, rfl, hg, hm⟩ := xe_w_cons hw
    split at h
    · next t =>
      obtain ⟨x, rfl, q1, q2⟩ := xe_g1 t hg
      refine row x m (kk _ ?_)
      split at h
      · next e =>
        rw [xe_f_eq, xe_kN q1 q2 e] at h
        cases h
        exact ⟨xe_gi _, hm⟩
      · cases h
        exact ⟨xe_gt _, hm⟩
    · cases h
  · cases h
theorem xe_lli_ok {f : Int64 → Int64 → Int32} (h : xe_lli f st = some st2) (hw : xe_w b as st stc) (row : ∀ x y rest, P2 (.int (f x y) :: rest) → P1 (.long y :: .long x :: rest)) (kk : ∀ st3, xe_w b as st2 st3 → P2 st3) : P1 stc := by
  unfold xe_lli at h
  split at h
  · next b2 a2 r =>
    obtain ⟨v, m, rfl, hg, hm⟩ := xe_w_cons hw
    obtain ⟨v2, m2, rfl, hg2, hm2⟩ := xe_w_cons hm
    split at h
    · next t =>
      rw [Bool.and_eq_true] at t
      obtain ⟨x, rfl, q1, q2⟩ := xe_g1 t.1 hg2
      obtain ⟨y, rfl, q3, q4⟩ := xe_g1 t.2 hg
      refine row x y m2 (kk _ ?_)
      split at h
      · next e =>
        rw [Bool.and_eq_true] at e
        rw [xe_f_eq, xe_kN q1 q2 e.1, xe_kN q3 q4 e.2] at h
        cases h
        exact ⟨xe_gi _, hm2⟩
      · cases h
        exact ⟨xe_gt _, hm2⟩
    · cases h
  · cases h
end XOPS
theorem xe_top (f : Int32 → Int32) (x : Int32) : 0 ≤ xe_i (f x) ∧ xe_i (f x) ≤ 4294967295 := ⟨Nat.zero_le _, by have := xe_i_lt (f x); omega⟩
theorem xe_byte (x : Int32) : 2147483520 ≤ xe_i x.toInt8.toInt32 ∧ xe_i x.toInt8.toInt32 ≤ 2147483775 := by
  have h := xe_ti x.toInt8.toInt32
  rw [Int8.toInt_toInt32] at h
  have h1 := x.toInt8.le_toInt
  have h2 := x.toInt8.toInt_lt
  omega
/-- how two ints compare: 0 never, 1 always, 2 who knows -/
def xe_clt (a b : xe_v) : Nat := if Nat.ble (a.2.2 + 1) b.2.1 then 1 else if Nat.ble b.2.2 a.2.1 then 0 else 2
def xe_ceq (a b : xe_v) : Nat := if a.2.1 == a.2.2 && b.2.1 == b.2.2 then (if a.2.1 == b.2.1 then 1 else 0) else if Nat.ble (a.2.2 + 1) b.2.1 || Nat.ble (b.2.2 + 1) a.2.1 then 0 else 2
def xe_not (n : Nat) : Nat := if n == 0 then 1 else if n == 1 then 0 else 2
def xe_cmp (c : Jvm.ClassFile.Cond) (a b : xe_v) : Nat := match c with
  | .eq => xe_ceq a b
  | .ne => xe_not (xe_ceq a b)
  | .lt => xe_clt a b
  | .ge => xe_not (xe_clt a b)
  | .gt => xe_clt b a
  | .le => xe_not (xe_clt b a)
def xe_two (n t f : Nat) : List Nat := if n == 1 then [t] else if n == 0 then [f] else [t, f]
theorem xe_clt_ok {a b : xe_v} {x y : Int32} (h1 : a.2.1 ≤ xe_i x) (h2 : xe_i x ≤ a.2.2) (h3 : b.2.1 ≤ xe_i y) (h4 : xe_i y ≤ b.2.2) : (xe_clt a b = 0 → ¬ x < y) ∧ (xe_clt a b = 1 → x < y) := by
  unfold xe_clt
  rw [xe_lt]
  split
  · next u =>
    have := Nat.le_of_ble_eq_true u
    exact ⟨fun z => (by cases z), fun _ => by omega⟩
  · split
    · next u =>
      have := Nat.le_of_ble_eq_true u
      exact ⟨fun _ => by omega, fun z => by cases z⟩
    · exact ⟨fun z => (by cases z), fun z => by cases z⟩
theorem xe_ceq_ok {a b : xe_v} {x y : Int32} (h1 : a.2.1 ≤ xe_i x) (h2 : xe_i x ≤ a.2.2) (h3 : b.2.1 ≤ xe_i y) (h4 : xe_i y ≤ b.2.2) : (xe_ceq a b = 0 → ¬ x = y) ∧ (xe_ceq a b = 1 → x = y) := by
  unfold xe_ceq
  rw [xe_eq]
  split
  · next u =>
    rw [Bool.and_eq_true] at u
    have e1 : a.2.1 = a.2.2 := by simpa using u.1
    have e2 : b.2.1 = b.2.2 := by simpa using u.2
    split
    · next w =>
      have e3 : a.2.1 = b.2.1 := by simpa using w
      exact ⟨fun z => (by cases z), fun _ => by omega⟩
    · next w =>
      have e3 : ¬ a.2.1 = b.2.1 := by simpa using w
      exact ⟨fun _ => by omega, fun z => by cases z⟩
  · split
    · next u =>
      rw [Bool.or_eq_true] at u
      refine ⟨fun _ => ?_, fun z => by cases z⟩
      rcases u with u | u
      · have := Nat.le_of_ble_eq_true u
        omega
      · have := Nat.le_of_ble_eq_true u
        omega
    · exact ⟨fun z => (by cases z), fun z => by cases z⟩
theorem xe_not_ok {n : Nat} {p : Prop} (h : (n = 0 → ¬ p) ∧ (n = 1 → p)) : (xe_not n = 0 → ¬ ¬ p) ∧ (xe_not n = 1 → ¬ p) := by
  unfold xe_not
  split
  · next e => exact ⟨fun z => (by cases z), fun _ => h.1 (by simpa using e)⟩
  · split
    · next e => exact ⟨fun _ k => k (h.2 (by simpa using e)), fun z => by cases z⟩
    · exact ⟨fun z => (by cases z), fun z => by cases z⟩
/-- of two ways on, the one that is taken is among those named -/
theorem xe_two_ok {n t f : Nat} {p : Prop} {G : Prop} {K : Nat → Prop} (h : (n = 0 → ¬ p) ∧ (n = 1 → p)) (row : (p → K t) → (¬ p → K f) → G) (kk : ∀ q ∈ xe_two n t f, K q) : G := by
  refine row (fun hp => kk t ?_) (fun hp => kk f ?_)
  · unfold xe_two
    split
    · exact List.mem_cons_self
    · split
      · next e => exact absurd hp (h.1 (by simpa using e))
      · exact List.mem_cons_self
  · unfold xe_two
    split
    · next e => exact absurd (h.2 (by simpa using e)) hp
    · split
      · exact List.mem_cons_self
      · exact List.mem_cons_of_mem _ List.mem_cons_self
end
section
/-! the reckoner's steps -/
abbrev xe_o : Type := Option xe_v × xe_h
def xe_look (cd : List (List (Option xe_I))) (pc : Nat) : Option xe_I := match cd[pc / 32]? with
  | some l => match l[pc % 32]? with
    | some r => r
    | none => none
  | none => none
def xe_len (I : Jvm.ClassFile.Instr) : Nat := match I with
  | .bipush _ | .iload _ | .lload _ | .aload _ | .istore _ | .lstore _ | .astore _ | .ldc _ | .newarray _ => 2
  | .sipush _ | .ldc_w _ | .ldc2_w _ | .getfield _ | .putfield _ | .new _ | .anewarray _ | .invokevirtual _ | .invokespecial _ | .invokestatic _ | .goto _ | .ifCond _ _ | .if_icmp _ _ | .ifnull _ | .ifnonnull _ | .iinc _ _ => 3
  | .tableswitch _ _ _ _ => 0
  | _ => 1
def xk_ty (x y : Nat) : FieldType := match xk_yy[x]? with
  | some f => f y
  | none => .float
def xe_fk (t : FieldType) (v : xe_v) : Bool := match t with
  | .int => v.1 == 0
  | .long => v.1 == 1
  | .boolean => v.1 == 0 && Nat.ble 2147483648 v.2.1 && Nat.ble v.2.2 2147483649
  | .object _ | .array _ => v.1 == 2 || v.1 == 3
  | _ => false
def xe_dv (t : FieldType) : xe_v := match t with
  | .long => (1, 9223372036854775808, 9223372036854775808)
  | .object _ | .array _ => (2, 0, 0)
  | _ => (0, 2147483648, 2147483648)
def xe_ld (t : Nat) (lv : List (Nat × xe_v)) (i : Nat) (st : List xe_v) : Option (List xe_v) := match xe_lg lv i with
  | some a => if a.1 == t then some (a :: st) else none
  | none => none
def xe_la (lv : List (Nat × xe_v)) (i : Nat) (st : List xe_v) : Option (List xe_v) := match xe_lg lv i with
  | some a => if a.1 == 2 || a.1 == 3 || a.1 == 4 then some (a :: st) else none
  | none => none
def xe_get (x y : Nat) (st : List xe_v) (σ : xe_h) : Option (List xe_v) := match st with
  | a :: r => if a.1 == 3 then match xh_g σ a.2.1 with
      | some c => if c.1 == 0 && c.2.1 == x then match c.2.2.1[y]? with
          | some v => some (v :: r)
          | none => none
        else none
      | none => none
    else none
  | _ => none
def xe_alen (sc : List xe_v) (st : List xe_v) (σ : xe_h) : Option (List xe_v) := match st with
  | a :: r => if a.1 == 3 then match xh_g σ a.2.1 with
      | some c => if (c.1 == 1 || c.1 == 2 || c.1 == 3 || c.1 == 4) && Nat.ble c.2.1 2147483647 then some (xe_n (2147483648 + c.2.1) :: r) else none
      | none => none
    else if a.1 == 4 && Nat.ble 1 sc.length then some (xe_n (2147483648 + sc.length) :: r) else none
  | _ => none
/-- a place in a row: the index is known and within -/
def xe_ix (i : xe_v) (n : Nat) : Bool := i.1 == 0 && i.2.1 == i.2.2 && Nat.ble 2147483648 i.2.1 && Nat.ble (i.2.1 + 1) (2147483648 + n)
def xe_ald (k : Nat) (sc : List xe_v) (st : List xe_v) (σ : xe_h) : Option (List xe_v) := match st with
  | i :: a :: r => if a.1 == 3 then match xh_g σ a.2.1 with
      | some c => if c.1 == k && xe_ix i c.2.1 then xe_f (i.2.1 - 2147483648) (fun j => some (xe_ag c.2.2.2.2 c.2.2.2.1 j :: r)) else none
      | none => none
    else if a.1 == 4 && k == 1 && xe_ix i sc.length then match sc[i.2.1 - 2147483648]? with
      | some v => if v.1 == 0 then some (v :: r) else none
      | none => none
    else none
  | _ => none
def xe_max (x y : Int32) : Int32 := if x < y then y else x
def xe_min (x y : Int32) : Int32 := if y < x then y else x
def xe_abs (x : Int64) : Int64 := if 0 < x then x else -x
def xe_pf (I : Jvm.ClassFile.Instr) : Nat → List xe_v → Nat → Nat → List (Nat × xe_v) → List xe_v → xe_h → Option (List xe_v) := match I with
  | .iconst n => fun d sc x y lv st σ => xe_f (xe_i (Int32.ofInt n)) (fun k => some (xe_n k :: st))
  | .bipush n => fun d sc x y lv st σ => xe_f (xe_i (Int8.ofInt n).toInt32) (fun k => some (xe_n k :: st))
  | .sipush n => fun d sc x y lv st σ => xe_f (xe_i (Int16.ofInt n).toInt32) (fun k => some (xe_n k :: st))
  | .lconst n => fun d sc x y lv st σ => xe_f (xe_l (Int64.ofNat (n : Nat))) (fun k => some (xe_nl k :: st))
  | .ldc _ => fun d sc x y lv st σ => if x == 1 then none else some (xe_n y :: st)
  | .ldc_w _ => fun d sc x y lv st σ => if x == 1 then none else some (xe_n y :: st)
  | .ldc2_w _ => fun d sc x y lv st σ => some (xe_nl y :: st)
  | .aconst_null => fun d sc x y lv st σ => some ((2, 0, 0) :: st)
  | .iload i => fun d sc x y lv st σ => xe_ld 0 lv i st
  | .iload_n i => fun d sc x y lv st σ => xe_ld 0 lv (i : Nat) st
  | .lload i => fun d sc x y lv st σ => xe_ld 1 lv i st
  | .lload_n i => fun d sc x y lv st σ => xe_ld 1 lv (i : Nat) st
  | .aload i => fun d sc x y lv st σ => xe_la lv i st
  | .aload_n i => fun d sc x y lv st σ => xe_la lv (i : Nat) st
  | .iadd => fun d sc x y lv st σ => xe_u2 (fun a b => a + b) st
  | .isub => fun d sc x y lv st σ => xe_u2 (fun a b => a - b) st
  | .imul => fun d sc x y lv st σ => xe_u2 (fun a b => a * b) st
  | .idiv => fun d sc x y lv st σ => xe_d2 (fun a b => a / b) st
  | .irem => fun d sc x y lv st σ => xe_d2 (fun a b => a - a / b * b) st
  | .ineg => fun d sc x y lv st σ => xe_u1 (fun a => -a) 0 4294967295 st
  | .iand => fun d sc x y lv st σ => xe_u2 (fun a b => a &&& b) st
  | .ior => fun d sc x y lv st σ => xe_u2 (fun a b => a ||| b) st
  | .ixor => fun d sc x y lv st σ => xe_u2 (fun a b => a ^^^ b) st
  | .ishl => fun d sc x y lv st σ => xe_u2 (fun a b => a <<< (b &&& 31)) st
  | .ishr => fun d sc x y lv st σ => xe_u2 (fun a b => a >>> (b &&& 31)) st
  | .iushr => fun d sc x y lv st σ => xe_u2 (fun a b => (a.toUInt32 >>> (b.toUInt32 &&& Int32.toUInt32 31)).toInt32) st
  | .ladd => fun d sc x y lv st σ => xe_m2 (fun a b => a + b) st
  | .lsub => fun d sc x y lv st σ => xe_m2 (fun a b => a - b) st
  | .lmul => fun d sc x y lv st σ => xe_m2 (fun a b => a * b) st
  | .ldiv => fun d sc x y lv st σ => xe_e2 (fun a b => a / b) st
  | .lrem => fun d sc x y lv st σ => xe_e2 (fun a b => a - a / b * b) st
  | .lneg => fun d sc x y lv st σ => xe_m1 (fun a => -a) st
  | .lcmp => fun d sc x y lv st σ => xe_lli lg_cmp st
  | .i2l => fun d sc x y lv st σ => xe_il Int32.toInt64 st
  | .l2i => fun d sc x y lv st σ => xe_li Int64.toInt32 st
  | .i2b => fun d sc x y lv st σ => xe_u1 (fun a => a.toInt8.toInt32) 2147483520 2147483775 st
  | .i2c => fun d sc x y lv st σ => xe_u1 (fun a => (a.toUInt32 % 65536).toInt32) 0 4294967295 st
  | .dup => fun d sc x y lv st σ => match st with
    | a :: r => if a.1 == 1 then none else some (a :: a :: r)
    | _ => none
  | .dup2 => fun d sc x y lv st σ => match st with
    | a :: r => if a.1 == 1 then some (a :: a :: r) else match r with
      | b :: r => if b.1 == 1 then none else some (a :: b :: a :: b :: r)
      | _ => none
    | _ => none
  | .pop => fun d sc x y lv st σ => match st with
    | a :: r => if a.1 == 1 then none else some r
    | _ => none
  | .getfield _ => fun d sc x y lv st σ => xe_get x y st σ
  | .arraylength => fun d sc x y lv st σ => xe_alen sc st σ
  | .iaload => fun d sc x y lv st σ => xe_ald 1 sc st σ
  | .baload => fun d sc x y lv st σ => xe_ald 2 sc st σ
  | .laload => fun d sc x y lv st σ => xe_ald 3 sc st σ
  | .aaload => fun d sc x y lv st σ => xe_ald 4 sc st σ
  | .invokestatic _ => fun d sc x y lv st σ => if Nat.ble 1 d && Nat.ble (xe_sum st) 8 then (if x == 2 then xe_u2 xe_max st else if x == 3 then xe_u2 xe_min st else if x == 4 then xe_m1 xe_abs st else none) else none
  | .invokespecial _ => fun d sc x y lv st σ => if Nat.ble 1 d && x == 1 && Nat.ble (xe_sum st) 8 then match st with
    | a :: r => if a.1 == 3 then some r else none
    | _ => none
    else none
  | _ => fun d sc x y lv st σ => none
def xe_push (d : Nat) (sc : List xe_v) (I : Jvm.ClassFile.Instr) (x y : Nat) (lv : List (Nat × xe_v)) (st : List xe_v) (σ : xe_h) : Option (List xe_v) := xe_pf I d sc x y lv st σ
/-- where it goes on -/
def xe_tg (pc : Nat) (o : Int) (k : Nat → Option (List Nat × List xe_v)) : Option (List Nat × List xe_v) := if 0 ≤ (pc : Int) + o then xe_f ((pc : Int) + o).toNat k else none
def xe_bf (I : Jvm.ClassFile.Instr) : Nat → List xe_v → Option (List Nat × List xe_v) := match I with
  | .goto o => fun pc st => xe_tg pc o (fun t => some ([t], st))
  | .ifCond c o => fun pc st => match st with
    | a :: r => if a.1 == 0 then xe_tg pc o (fun t => some (xe_two (xe_cmp c a (xe_n 2147483648)) t (pc + 3), r)) else none
    | _ => none
  | .if_icmp c o => fun pc st => match st with
    | b :: a :: r => if a.1 == 0 && b.1 == 0 then xe_tg pc o (fun t => some (xe_two (xe_cmp c a b) t (pc + 3), r)) else none
    | _ => none
  | .ifnull o => fun pc st => match st with
    | a :: r => if a.1 == 2 then xe_tg pc o (fun t => some ([t], r)) else if a.1 == 3 then some ([pc + 3], r) else none
    | _ => none
  | .ifnonnull o => fun pc st => match st with
    | a :: r => if a.1 == 3 then xe_tg pc o (fun t => some ([t], r)) else if a.1 == 2 then some ([pc + 3], r) else none
    | _ => none
  | .tableswitch df lo hi os => fun pc st => match st with
    | a :: r => if a.1 == 0 then
        (if decide (((a.2.2 : Int) - 2147483648) < lo) || decide (hi < (a.2.1 : Int) - 2147483648) then xe_tg pc df (fun t => some ([t], r))
        else if a.2.1 == a.2.2 && decide (¬ ((a.2.1 : Int) - 2147483648) < lo) && decide (¬ hi < (a.2.1 : Int) - 2147483648) then match os[((a.2.1 : Int) - 2147483648 - lo).toNat]? with
          | some o => xe_tg pc o (fun t => some ([t], r))
          | none => none
        else none) else none
    | _ => none
  | _ => fun pc st => none
def xe_br (I : Jvm.ClassFile.Instr) (pc : Nat) (st : List xe_v) : Option (List Nat × List xe_v) := xe_bf I pc st
/-- stores into places of the frame; L places there are -/
def xe_t1 (L : Nat) (i : Nat) (lv : List (Nat × xe_v)) (st : List xe_v) (ok : xe_v → Bool) : Option (List (Nat × xe_v) × List xe_v) := match st with
  | a :: r => if ok a && Nat.ble (i + 1) L then xe_fl (xe_s1 lv i a) (fun l => some (l, r)) else none
  | _ => none
def xe_t2 (L : Nat) (i : Nat) (lv : List (Nat × xe_v)) (st : List xe_v) : Option (List (Nat × xe_v) × List xe_v) := match st with
  | a :: r => if a.1 == 1 && Nat.ble (i + 2) L then xe_fl (xe_s2 lv i a) (fun l => some (l, r)) else none
  | _ => none
def xe_of (I : Jvm.ClassFile.Instr) : Nat → List (Nat × xe_v) → List xe_v → Option (List (Nat × xe_v) × List xe_v) := match I with
  | .istore i => fun L lv st => xe_t1 L i lv st (fun a => a.1 == 0)
  | .istore_n i => fun L lv st => xe_t1 L (i : Nat) lv st (fun a => a.1 == 0)
  | .astore i => fun L lv st => xe_t1 L i lv st (fun a => a.1 == 2 || a.1 == 3)
  | .astore_n i => fun L lv st => xe_t1 L (i : Nat) lv st (fun a => a.1 == 2 || a.1 == 3)
  | .lstore i => fun L lv st => xe_t2 L i lv st
  | .lstore_n i => fun L lv st => xe_t2 L (i : Nat) lv st
  | .iinc i n => fun L lv st => match xe_lg lv i with
    | some a => if a.1 == 0 && Nat.ble (i + 1) L then
        (if a.2.1 == a.2.2 then xe_f (xe_i (xe_j a.2.1 + Int32.ofInt n)) (fun k => xe_fl (xe_s1 lv i (0, k, k)) (fun l => some (l, st)))
        else xe_fl (xe_s1 lv i (0, 0, 4294967295)) (fun l => some (l, st))) else none
    | none => none
  | _ => fun L lv st => none
def xe_sto (L : Nat) (I : Jvm.ClassFile.Instr) (lv : List (Nat × xe_v)) (st : List xe_v) : Option (List (Nat × xe_v) × List xe_v) := xe_of I L lv st
/-- stores into the world -/
def xe_put (x y : Nat) (st : List xe_v) (σ : xe_h) : Option (List xe_v × xe_h) := match st with
  | v :: a :: r => if a.1 == 3 && xe_fk (xk_ty x y) v then match xh_g σ a.2.1 with
      | some c => if c.1 == 0 && c.2.1 == x && Nat.ble (y + 1) c.2.2.1.length then xe_fl (c.2.2.1.set y v) (fun f => xh_k σ a.2.1 (0, x, f, c.2.2.2.1, c.2.2.2.2) (fun σ2 => some (r, σ2))) else none
      | none => none
    else none
  | _ => none
def xe_ast (k : Nat) (ok : xe_v → Bool) (st : List xe_v) (σ : xe_h) : Option (List xe_v × xe_h) := match st with
  | v :: i :: a :: r => if a.1 == 3 && ok v then match xh_g σ a.2.1 with
      | some c => if c.1 == k && xe_ix i c.2.1 then xe_f (i.2.1 - 2147483648) (fun j => xe_fl (xe_aw c.2.2.2.2 c.2.2.2.1 j v) (fun w => xh_k σ a.2.1 (k, c.2.1, c.2.2.1, c.2.2.2.1, w) (fun σ2 => some (r, σ2)))) else none
      | none => none
    else none
  | _ => none
def xe_acp (d : Nat) (st : List xe_v) (σ : xe_h) : Option (List xe_v × xe_h) := match st with
  | n :: dp :: a :: sp :: a0 :: r => if a.1 == 3 && a0.1 == 3 && Nat.ble 1 d && Nat.ble (xe_sum r) 8 then match xh_g σ a.2.1, xh_g σ a0.2.1 with
      | some c, some c0 => if c.1 == 1 && c0.1 == 1 && n.1 == 0 && dp.1 == 0 && sp.1 == 0 && n.2.1 == n.2.2 && dp.2.1 == dp.2.2 && sp.2.1 == sp.2.2 && Nat.ble 2147483648 n.2.1 && Nat.ble 2147483648 dp.2.1 && Nat.ble 2147483648 sp.2.1
          && Nat.ble ((sp.2.1 - 2147483648) + (n.2.1 - 2147483648)) c0.2.1 && Nat.ble ((dp.2.1 - 2147483648) + (n.2.1 - 2147483648)) c.2.1 then
          xe_fl (xe_ac c0.2.2.2.2 c0.2.2.2.1 (sp.2.1 - 2147483648) (dp.2.1 - 2147483648) (n.2.1 - 2147483648) c.2.2.2.2 c.2.2.2.1) (fun w => xh_k σ a.2.1 (1, c.2.1, c.2.2.1, c.2.2.2.1, w) (fun σ2 => some (r, σ2))) else none
      | _, _ => none
    else none
  | _ => none
def xe_slide (σ : xe_h) (v : xe_v) : Bool := v.1 == 3 && (match xh_g σ v.2.1 with
  | some c => c.1 == 0 && c.2.1 == 7
  | none => false)
def xe_wf (I : Jvm.ClassFile.Instr) : Nat → Nat → Nat → List xe_v → xe_h → Option (List xe_v × xe_h) := match I with
  | .putfield _ => fun d x y st σ => xe_put x y st σ
  | .iastore => fun d x y st σ => xe_ast 1 (fun v => v.1 == 0) st σ
  | .bastore => fun d x y st σ => xe_ast 2 (fun v => v.1 == 0 && Nat.ble 2147483520 v.2.1 && Nat.ble v.2.2 2147483775) st σ
  | .lastore => fun d x y st σ => xe_ast 3 (fun v => v.1 == 1) st σ
  | .aastore => fun d x y st σ => xe_ast 4 (xe_slide σ) st σ
  | .invokestatic _ => fun d x y st σ => if x == 5 then xe_acp d st σ else none
  | _ => fun d x y st σ => none
def xe_wr (d : Nat) (I : Jvm.ClassFile.Instr) (x y : Nat) (st : List xe_v) (σ : xe_h) : Option (List xe_v × xe_h) := xe_wf I d x y st σ
/-- new cells: how many words -/
def xe_df (x n : Nat) : List xe_v := (List.range n).map (fun k => xe_dv (xk_ty x k))
def xe_dk (t : FieldType) : Bool := match t with
  | .int | .long | .boolean | .object _ | .array _ => true
  | _ => false
def xe_al (I : Jvm.ClassFile.Instr) (x : Nat) (st : List xe_v) (σ : xe_h) : Option (List xe_v × xe_h × Nat) := if Nat.ble (σ.1 + 1) 512 then match I with
  | .new _ => match xk_cl[x]? with
    | some q => if (List.range q.2.2).all (fun k => xe_dk (xk_ty x k)) then xe_fl (xe_df x q.2.2) (fun f => xh_q σ (0, x, f, (2, 0, 0), []) (fun σ2 => some ((3, σ.1, 0) :: st, σ2, q.2.2))) else none
    | none => none
  | .newarray t => match st with
    | n :: r => if n.1 == 0 && n.2.1 == n.2.2 && Nat.ble 2147483648 n.2.1 && Nat.ble (n.2.1 - 2147483648) 67108864 then
        match t with
        | .int => xe_f (n.2.1 - 2147483648) (fun k => xh_q σ (1, k, [], (0, 2147483648, 2147483648), []) (fun σ2 => some ((3, σ.1, 0) :: r, σ2, k)))
        | .byte => xe_f (n.2.1 - 2147483648) (fun k => xh_q σ (2, k, [], (0, 2147483648, 2147483648), []) (fun σ2 => some ((3, σ.1, 0) :: r, σ2, k)))
        | .long => xe_f (n.2.1 - 2147483648) (fun k => xh_q σ (3, k, [], (1, 9223372036854775808, 9223372036854775808), []) (fun σ2 => some ((3, σ.1, 0) :: r, σ2, k)))
        | _ => none
      else none
    | _ => none
  | .anewarray _ => match st with
    | n :: r => if n.1 == 0 && n.2.1 == n.2.2 && Nat.ble 2147483648 n.2.1 && Nat.ble (n.2.1 - 2147483648) 67108864 then
        xe_f (n.2.1 - 2147483648) (fun k => xh_q σ (4, k, [], (2, 0, 0), []) (fun σ2 => some ((3, σ.1, 0) :: r, σ2, k)))
      else none
    | _ => none
  | _ => none
  else none
/-- the end: what is answered -/
def xe_ro (t : Option FieldType) (a : xe_v) : Bool := match t with
  | some .int => a.1 == 0
  | some .boolean => a.1 == 0 && Nat.ble 2147483648 a.2.1 && Nat.ble a.2.2 2147483649
  | _ => false
def xe_rl (t : Option FieldType) : Bool := match t with
  | some .long => true
  | _ => false
def xe_rr (t : Option FieldType) : Bool := match t with
  | some (.object _) => true
  | _ => false
def xe_ret (t : Option FieldType) (I : Jvm.ClassFile.Instr) (st : List xe_v) : Option (Option xe_v) := match I, st with
  | .ireturn, [a] => if xe_ro t a then some (some a) else none
  | .lreturn, [a] => if xe_rl t && a.1 == 1 then some (some a) else none
  | .areturn, [a] => if xe_rr t && (a.1 == 2 || a.1 == 3) then some (some a) else none
  | .return_, [] => if t.isNone then some none else none
  | _, _ => none
/-- a call: which method, with what, what is left -/
def xe_cal (I : Jvm.ClassFile.Instr) (x y : Nat) (st : List xe_v) (σ : xe_h) : Option (List xe_v × List xe_v) := match I with
  | .invokestatic _ => if (x == 0 || x == 1) && (xm y).2.2.2.2.2.2.2 == 0 && Nat.ble (xm y).2.2.2.2.2.1 st.length then some ((st.take (xm y).2.2.2.2.2.1).reverse, st.drop (xm y).2.2.2.2.2.1) else none
  | .invokevirtual _ => if x == 0 && (xm y).2.2.2.2.2.2.2 == 1 && Nat.ble (xm y).2.2.2.2.2.1 st.length then match st.drop (xm y).2.2.2.2.2.1 with
      | a :: r => if a.1 == 3 then match xh_g σ a.2.1 with
          | some c => if c.1 == 0 && c.2.1 == (xm y).2.2.2.2.2.2.1 then some (a :: (st.take (xm y).2.2.2.2.2.1).reverse, r) else none
          | none => none
        else none
      | _ => none
    else none
  | .invokespecial _ => if x == 0 && (xm y).2.2.2.2.2.2.2 == 2 && Nat.ble (xm y).2.2.2.2.2.1 st.length then match st.drop (xm y).2.2.2.2.2.1 with
      | a :: r => if a.1 == 3 then some (a :: (st.take (xm y).2.2.2.2.2.1).reverse, r) else none
      | _ => none
    else none
  | _ => none
def xe_all {α β : Type} (l : List α) (f : α → Option (List β)) : Option (List β) := match l with
  | [] => some []
  | a :: t => match f a with
    | some o => match xe_all t f with
      | some o2 => some (o ++ o2)
      | none => none
    | none => none
theorem xe_all_ok {α β : Type} {f : α → Option (List β)} : ∀ {l : List α} {o : List β}, xe_all l f = some o → ∀ a ∈ l, ∃ q : List β, f a = some q ∧ ∀ z ∈ q, z ∈ o
  | [], o, h, a, ha => absurd ha List.not_mem_nil
  | c :: t, o, h, a, ha => by
    unfold xe_all at h
    split at h
    · next o1 h1 =>
      split at h
      · next o2 h2 =>
        cases h
        rcases List.mem_cons.mp ha with e | e
        · subst e
          exact ⟨o1, h1, fun z hz => List.mem_append_left _ hz⟩
        · obtain ⟨q, q1, q2⟩ := xe_all_ok h2 a e
          exact ⟨q, q1, fun z hz => List.mem_append_right _ (q2 z hz)⟩
      · cases h
    · cases h
def xe_al1 {α β : Type} (l : List α) (f : α → Option (List β)) : Option (List β) := match l with
  | [a] => f a
  | l => xe_all l f
theorem xe_al1_ok {α β : Type} {f : α → Option (List β)} {l : List α} {o : List β} (h : xe_al1 l f = some o) : ∀ a ∈ l, ∃ q : List β, f a = some q ∧ ∀ z ∈ q, z ∈ o := by
  unfold xe_al1 at h
  split at h
  · intro a ha
    rw [List.mem_singleton.mp ha]
    exact ⟨o, h, fun _ z => z⟩
  · exact xe_all_ok h
/-- which of the steps it is -/
def xe_kd (I : Jvm.ClassFile.Instr) : Nat → Nat := match I with
  | .goto _ | .ifCond _ _ | .if_icmp _ _ | .ifnull _ | .ifnonnull _ | .tableswitch _ _ _ _ => fun _ => 1
  | .istore _ | .istore_n _ | .astore _ | .astore_n _ | .lstore _ | .lstore_n _ | .iinc _ _ => fun _ => 2
  | .invokevirtual _ => fun _ => 3
  | .invokestatic _ => fun x => if x == 0 || x == 1 then 3 else if x == 5 then 4 else 0
  | .invokespecial _ => fun x => if x == 1 then 0 else 3
  | .putfield _ | .iastore | .bastore | .lastore | .aastore => fun _ => 4
  | .ireturn | .lreturn | .areturn | .return_ => fun _ => 5
  | .new _ | .newarray _ | .anewarray _ => fun _ => 6
  | _ => fun _ => 0
abbrev xe_KT : Type := Nat → List (Nat × xe_v) → List xe_v → xe_h → Nat × Nat → Option (List xe_o)
abbrev xe_CT : Type := Nat → List xe_v → xe_h → Option (List xe_o)
abbrev xe_ST : Type := Nat → List xe_v → Nat → xe_KT → xe_CT → xe_I → Nat → List (Nat × xe_v) → List xe_v → xe_h → Nat × Nat → Option (List xe_o)
def xe_h0 : xe_ST := fun d sc _ K _ q pc lv st σ kc => match xe_push d sc q.1 q.2.2.1 q.2.2.2.1 lv st σ with
  | some st2 => xe_f (pc + q.2.1) (fun pc2 => K pc2 lv st2 σ kc)
  | none => none
def xe_h1 : xe_ST := fun _ _ _ K _ q pc lv st σ kc => match xe_br q.1 pc st with
  | some ts => xe_al1 ts.1 (fun t => K t lv ts.2 σ kc)
  | none => none
def xe_h2 : xe_ST := fun _ _ μ K _ q pc lv st σ kc => match xe_sto (xm μ).2.2.1 q.1 lv st with
  | some w => xe_f (pc + q.2.1) (fun pc2 => K pc2 w.1 w.2 σ kc)
  | none => none
def xe_h3 : xe_ST := fun d _ μ K call q pc lv st σ kc => match xe_cal q.1 q.2.2.1 q.2.2.2.1 st σ with
  | some ar => if Nat.ble 1 d && Nat.ble (xe_sum ar.2) 8 && Nat.ble (xe_sum ar.1) (xm q.2.2.2.1).2.2.1 && Nat.ble (kc.1 + (xm q.2.2.2.1).2.2.2.2.1.1) (xm μ).2.2.2.2.1.1 && Nat.ble (kc.2 + (xm q.2.2.2.1).2.2.2.2.1.2) (xm μ).2.2.2.2.1.2 then
      (match call q.2.2.2.1 ar.1 σ with
      | some os => xe_al1 os (fun o => xe_f (pc + 3) (fun pc2 => K pc2 lv (o.1.toList ++ ar.2) o.2 (kc.1 + (xm q.2.2.2.1).2.2.2.2.1.1, kc.2 + (xm q.2.2.2.1).2.2.2.2.1.2)))
      | none => none) else none
  | none => none
def xe_h4 : xe_ST := fun d _ _ K _ q pc lv st σ kc => match xe_wr d q.1 q.2.2.1 q.2.2.2.1 st σ with
  | some w => xe_f (pc + q.2.1) (fun pc2 => K pc2 lv w.1 w.2 kc)
  | none => none
def xe_h5 : xe_ST := fun _ _ μ _ _ q _ _ st σ kc => match xe_ret (xm μ).2.2.2.1 q.1 st with
  | some r => if Nat.ble kc.1 (xm μ).2.2.2.2.1.1 && Nat.ble kc.2 (xm μ).2.2.2.2.1.2 then some [(r, σ)] else none
  | none => none
def xe_h6 : xe_ST := fun _ _ μ K _ q pc lv st σ kc => match xe_al q.1 q.2.2.1 st σ with
  | some w => if Nat.ble (kc.1 + 1) (xm μ).2.2.2.2.1.1 && Nat.ble (kc.2 + w.2.2) (xm μ).2.2.2.2.1.2 then xe_f (pc + q.2.1) (fun pc2 => K pc2 lv w.1 w.2.1 (kc.1 + 1, kc.2 + w.2.2)) else none
  | none => none
def xe_sd (k : Nat) : xe_ST := match k with
  | 0 => xe_h0
  | 1 => xe_h1
  | 2 => xe_h2
  | 3 => xe_h3
  | 4 => xe_h4
  | 5 => xe_h5
  | _ => xe_h6
/-- one step, with what goes on behind it handed in -/
def xe_step (d : Nat) (sc : List xe_v) (μ : Nat) (K : xe_KT) (call : xe_CT) (q : xe_I) (pc : Nat) (lv : List (Nat × xe_v)) (st : List xe_v) (σ : xe_h) (kc : Nat × Nat) : Option (List xe_o) := xe_sd (xe_kd q.1 q.2.2.1) d sc μ K call q pc lv st σ kc
def xe_run : Nat → Nat → List xe_v → Nat → List (List (Option xe_I)) → Nat → List (Nat × xe_v) → List xe_v → xe_h → Nat × Nat → Option (List xe_o)
  | 0, _, _, _, _, _, _, _, _, _ => none
  | n + 1, d, sc, μ, cd, pc, lv, st, σ, kc => match xe_look cd pc with
    | some q => xe_step d sc μ (fun pc2 lv2 st2 σ2 kc2 => xe_run n d sc μ cd pc2 lv2 st2 σ2 kc2) (fun y vs σ2 => xe_run n (d - 1) [] y (xc y) 0 (xe_ar 0 vs) [] σ2 (0, 0)) q pc lv st σ kc
    | none => none
end
section
/-! decoding, by the bytes that spell an instruction -/
def xB (code : ByteArray) (k b : Nat) : Prop := ∃ a : UInt8, code.data.toList[k]? = some a ∧ a.toNat = b
theorem rd_b {α β : Type} (m : Jvm.ClassFile.Decoder α) (K : α → Jvm.ClassFile.Decoder β) (code : ByteArray) (k : Nat) {a : α} {k2 : Nat} (h : m code k = Except.ok (a, k2)) : (m >>= K) code k = K a code k2 := by
  show (Except.bind (m code k) (fun p => K p.1 code p.2)) = _
  rw [h]
  rfl
theorem u1_ok {code : ByteArray} {k b : Nat} (h : xB code k b) : (Jvm.ClassFile.Reader.u1 : Jvm.ClassFile.Decoder Nat) code k = Except.ok (b, k + 1) := by
  obtain ⟨a, h1, h2⟩ := h
  obtain ⟨hk, h3⟩ := List.getElem?_eq_some_iff.mp h1
  have hs : k < code.size := by
    rw [Array.length_toList] at hk
    exact hk
  have hv : (code[k]'hs).toNat = b := by
    rw [← h2, ← h3]
    rfl
  show (dite (k < code.size) (fun h => (do set (k + 1); pure (code[k]'h).toNat : Jvm.ClassFile.Decoder Nat)) (fun _ => throw (Jvm.ClassFile.HasTruncated.truncated k))) code k = _
  rw [dif_pos hs, ← hv]
  rfl
theorem u2_ok {code : ByteArray} {k a b : Nat} (h1 : xB code k a) (h2 : xB code (k + 1) b) : (Jvm.ClassFile.Reader.u2 : Jvm.ClassFile.Decoder Nat) code k = Except.ok (a * 256 + b, k + 2) := by
  unfold Jvm.ClassFile.Reader.u2
  rw [rd_b _ _ _ _ (u1_ok h1), rd_b _ _ _ _ (u1_ok h2)]
  rfl
theorem s1_ok {code : ByteArray} {k a : Nat} (h1 : xB code k a) : (Jvm.ClassFile.Reader.s1 : Jvm.ClassFile.Decoder Int) code k = Except.ok (Jvm.ClassFile.Reader.signed 8 a, k + 1) := by
  show (Except.bind ((Jvm.ClassFile.Reader.u1 : Jvm.ClassFile.Decoder Nat) code k) (fun p => Except.ok (Jvm.ClassFile.Reader.signed 8 p.1, p.2))) = _
  rw [u1_ok h1]
  rfl
theorem s2_ok {code : ByteArray} {k a b : Nat} (h1 : xB code k a) (h2 : xB code (k + 1) b) : (Jvm.ClassFile.Reader.s2 : Jvm.ClassFile.Decoder Int) code k = Except.ok (Jvm.ClassFile.Reader.signed 16 (a * 256 + b), k + 2) := by
  show (Except.bind ((Jvm.ClassFile.Reader.u2 : Jvm.ClassFile.Decoder Nat) code k) (fun p => Except.ok (Jvm.ClassFile.Reader.signed 16 p.1, p.2))) = _
  rw [u2_ok h1 h2]
  rfl
theorem dc_of {code : ByteArray} {pc n : Nat} {I : Jvm.ClassFile.Instr} (h : (Jvm.ClassFile.Decoder.instr pc) code pc = Except.ok (I, pc + n)) : decode code pc = .ok (I, n) := by
  show (Except.bind ((Jvm.ClassFile.Decoder.instr pc) code pc) (fun p => Except.ok (p.1, p.2 - pc))) = _
  rw [h]
  show Except.ok (I, pc + n - pc) = _
  rw [Nat.add_sub_cancel_left]
set_option maxRecDepth 100000
section OPS
variable {code : ByteArray} {pc : Nat}
theorem oc_aaload (h : xB code pc 50) : (Jvm.ClassFile.Decoder.instr pc) code pc = Except.ok (.aaload, pc + 1) := (rd_b _ _ code pc (u1_ok h)).trans rfl
theorem oc_aastore (h : xB code pc 83) : (Jvm.ClassFile.Decoder.instr pc) code pc = Except.ok (.aastore, pc + 1) := (rd_b _ _ code pc (u1_ok h)).trans rfl
theorem oc_aconst_null (h : xB code pc 1) : (Jvm.ClassFile.Decoder.instr pc) code pc = Except.ok (.aconst_null, pc + 1) := (rd_b _ _ code pc (u1_ok h)).trans rfl
theorem oc_areturn (h : xB code pc 176) : (Jvm.ClassFile.Decoder.instr pc) code pc = Except.ok (.areturn, pc + 1) := (rd_b _ _ code pc (u1_ok h)).trans rfl
theorem oc_arraylength (h : xB code pc 190) : (Jvm.ClassFile.Decoder.instr pc) code pc = Except.ok (.arraylength, pc + 1) := (rd_b _ _ code pc (u1_ok h)).trans rfl
theorem oc_baload (h : xB code pc 51) : (Jvm.ClassFile.Decoder.instr pc) code pc = Except.ok (.baload, pc + 1) := (rd_b _ _ code pc (u1_ok h)).trans rfl
theorem oc_bastore (h : xB code pc 84) : (Jvm.ClassFile.Decoder.instr pc) code pc = Except.ok (.bastore, pc + 1) := (rd_b _ _ code pc (u1_ok h)).trans rfl
theorem oc_dup (h : xB code pc 89) : (Jvm.ClassFile.Decoder.instr pc) code pc = Except.ok (.dup, pc + 1) := (rd_b _ _ code pc (u1_ok h)).trans rfl
theorem oc_dup2 (h : xB code pc 92) : (Jvm.ClassFile.Decoder.instr pc) code pc = Except.ok (.dup2, pc + 1) := (rd_b _ _ code pc (u1_ok h)).trans rfl
theorem oc_i2b (h : xB code pc 145) : (Jvm.ClassFile.Decoder.instr pc) code pc = Except.ok (.i2b, pc + 1) := (rd_b _ _ code pc (u1_ok h)).trans rfl
theorem oc_i2c (h : xB code pc 146) : (Jvm.ClassFile.Decoder.instr pc) code pc = Except.ok (.i2c, pc + 1) := (rd_b _ _ code pc (u1_ok h)).trans rfl
theorem oc_i2l (h : xB code pc 133) : (Jvm.ClassFile.Decoder.instr pc) code pc = Except.ok (.i2l, pc + 1) := (rd_b _ _ code pc (u1_ok h)).trans rfl
theorem oc_iadd (h : xB code pc 96) : (Jvm.ClassFile.Decoder.instr pc) code pc = Except.ok (.iadd, pc + 1) := (rd_b _ _ code pc (u1_ok h)).trans rfl
theorem oc_iaload (h : xB code pc 46) : (Jvm.ClassFile.Decoder.instr pc) code pc = Except.ok (.iaload, pc + 1) := (rd_b _ _ code pc (u1_ok h)).trans rfl
theorem oc_iand (h : xB code pc 126) : (Jvm.ClassFile.Decoder.instr pc) code pc = Except.ok (.iand, pc + 1) := (rd_b _ _ code pc (u1_ok h)).trans rfl
theorem oc_iastore (h : xB code pc 79) : (Jvm.ClassFile.Decoder.instr pc) code pc = Except.ok (.iastore, pc + 1) := (rd_b _ _ code pc (u1_ok h)).trans rfl
theorem oc_idiv (h : xB code pc 108) : (Jvm.ClassFile.Decoder.instr pc) code pc = Except.ok (.idiv, pc + 1) := (rd_b _ _ code pc (u1_ok h)).trans rfl
theorem oc_imul (h : xB code pc 104) : (Jvm.ClassFile.Decoder.instr pc) code pc = Except.ok (.imul, pc + 1) := (rd_b _ _ code pc (u1_ok h)).trans rfl
theorem oc_ineg (h : xB code pc 116) : (Jvm.ClassFile.Decoder.instr pc) code pc = Except.ok (.ineg, pc + 1) := (rd_b _ _ code pc (u1_ok h)).trans rfl
theorem oc_ior (h : xB code pc 128) : (Jvm.ClassFile.Decoder.instr pc) code pc = Except.ok (.ior, pc + 1) := (rd_b _ _ code pc (u1_ok h)).trans rfl
theorem oc_irem (h : xB code pc 112) : (Jvm.ClassFile.Decoder.instr pc) code pc = Except.ok (.irem, pc + 1) := (rd_b _ _ code pc (u1_ok h)).trans rfl
theorem oc_ireturn (h : xB code pc 172) : (Jvm.ClassFile.Decoder.instr pc) code pc = Except.ok (.ireturn, pc + 1) := (rd_b _ _ code pc (u1_ok h)).trans rfl
theorem oc_ishl (h : xB code pc 120) : (Jvm.ClassFile.Decoder.instr pc) code pc = Except.ok (.ishl, pc + 1) := (rd_b _ _ code pc (u1_ok h)).trans rfl
theorem oc_ishr (h : xB code pc 122) : (Jvm.ClassFile.Decoder.instr pc) code pc = Except.ok (.ishr, pc + 1) := (rd_b _ _ code pc (u1_ok h)).trans rfl
theorem oc_isub (h : xB code pc 100) : (Jvm.ClassFile.Decoder.instr pc) code pc = Except.ok (.isub, pc + 1) := (rd_b _ _ code pc (u1_ok h)).trans rfl
theorem oc_iushr (h : xB code pc 124) : (Jvm.ClassFile.Decoder.instr pc) code pc = Except.ok (.iushr, pc + 1) := (rd_b _ _ code pc (u1_ok h)).trans rfl
theorem oc_ixor (h : xB code pc 130) : (Jvm.ClassFile.Decoder.instr pc) code pc = Except.ok (.ixor, pc + 1) := (rd_b _ _ code pc (u1_ok h)).trans rfl
theorem oc_l2i (h : xB code pc 136) : (Jvm.ClassFile.Decoder.instr pc) code pc = Except.ok (.l2i, pc + 1) := (rd_b _ _ code pc (u1_ok h)).trans rfl
theorem oc_ladd (h : xB code pc 97) : (Jvm.ClassFile.Decoder.instr pc) code pc = Except.ok (.ladd, pc + 1) := (rd_b _ _ code pc (u1_ok h)).trans rfl
theorem oc_laload (h : xB code pc 47) : (Jvm.ClassFile.Decoder.instr pc) code pc = Except.ok (.laload, pc + 1) := (rd_b _ _ code pc (u1_ok h)).trans rfl
theorem oc_lastore (h : xB code pc 80) : (Jvm.ClassFile.Decoder.instr pc) code pc = Except.ok (.lastore, pc + 1) := (rd_b _ _ code pc (u1_ok h)).trans rfl
theorem oc_lcmp (h : xB code pc 148) : (Jvm.ClassFile.Decoder.instr pc) code pc = Except.ok (.lcmp, pc + 1) := (rd_b _ _ code pc (u1_ok h)).trans rfl
theorem oc_ldiv (h : xB code pc 109) : (Jvm.ClassFile.Decoder.instr pc) code pc = Except.ok (.ldiv, pc + 1) := (rd_b _ _ code pc (u1_ok h)).trans rfl
theorem oc_lmul (h : xB code pc 105) : (Jvm.ClassFile.Decoder.instr pc) code pc = Except.ok (.lmul, pc + 1) := (rd_b _ _ code pc (u1_ok h)).trans rfl
theorem oc_lneg (h : xB code pc 117) : (Jvm.ClassFile.Decoder.instr pc) code pc = Except.ok (.lneg, pc + 1) := (rd_b _ _ code pc (u1_ok h)).trans rfl
theorem oc_lrem (h : xB code pc 113) : (Jvm.ClassFile.Decoder.instr pc) code pc = Except.ok (.lrem, pc + 1) := (rd_b _ _ code pc (u1_ok h)).trans rfl
theorem oc_lreturn (h : xB code pc 173) : (Jvm.ClassFile.Decoder.instr pc) code pc = Except.ok (.lreturn, pc + 1) := (rd_b _ _ code pc (u1_ok h)).trans rfl
theorem oc_lsub (h : xB code pc 101) : (Jvm.ClassFile.Decoder.instr pc) code pc = Except.ok (.lsub, pc + 1) := (rd_b _ _ code pc (u1_ok h)).trans rfl
theorem oc_pop (h : xB code pc 87) : (Jvm.ClassFile.Decoder.instr pc) code pc = Except.ok (.pop, pc + 1) := (rd_b _ _ code pc (u1_ok h)).trans rfl
theorem oc_pop2 (h : xB code pc 88) : (Jvm.ClassFile.Decoder.instr pc) code pc = Except.ok (.pop2, pc + 1) := (rd_b _ _ code pc (u1_ok h)).trans rfl
theorem oc_return_ (h : xB code pc 177) : (Jvm.ClassFile.Decoder.instr pc) code pc = Except.ok (.return_, pc + 1) := (rd_b _ _ code pc (u1_ok h)).trans rfl
theorem oc_iload_n0 (h : xB code pc 26) : (Jvm.ClassFile.Decoder.instr pc) code pc = Except.ok (.iload_n 0, pc + 1) := (rd_b _ _ code pc (u1_ok h)).trans rfl
theorem oc_iload_n1 (h : xB code pc 27) : (Jvm.ClassFile.Decoder.instr pc) code pc = Except.ok (.iload_n 1, pc + 1) := (rd_b _ _ code pc (u1_ok h)).trans rfl
theorem oc_iload_n2 (h : xB code pc 28) : (Jvm.ClassFile.Decoder.instr pc) code pc = Except.ok (.iload_n 2, pc + 1) := (rd_b _ _ code pc (u1_ok h)).trans rfl
theorem oc_iload_n3 (h : xB code pc 29) : (Jvm.ClassFile.Decoder.instr pc) code pc = Except.ok (.iload_n 3, pc + 1) := (rd_b _ _ code pc (u1_ok h)).trans rfl
theorem oc_lload_n0 (h : xB code pc 30) : (Jvm.ClassFile.Decoder.instr pc) code pc = Except.ok (.lload_n 0, pc + 1) := (rd_b _ _ code pc (u1_ok h)).trans rfl
theorem oc_lload_n1 (h : xB code pc 31) : (Jvm.ClassFile.Decoder.instr pc) code pc = Except.ok (.lload_n 1, pc + 1) := (rd_b _ _ code pc (u1_ok h)).trans rfl
theorem oc_lload_n2 (h : xB code pc 32) : (Jvm.ClassFile.Decoder.instr pc) code pc = Except.ok (.lload_n 2, pc + 1) := (rd_b _ _ code pc (u1_ok h)).trans rfl
theorem oc_lload_n3 (h : xB code pc 33) : (Jvm.ClassFile.Decoder.instr pc) code pc = Except.ok (.lload_n 3, pc + 1) := (rd_b _ _ code pc (u1_ok h)).trans rfl
theorem oc_aload_n0 (h : xB code pc 42) : (Jvm.ClassFile.Decoder.instr pc) code pc = Except.ok (.aload_n 0, pc + 1) := (rd_b _ _ code pc (u1_ok h)).trans rfl
theorem oc_aload_n1 (h : xB code pc 43) : (Jvm.ClassFile.Decoder.instr pc) code pc = Except.ok (.aload_n 1, pc + 1) := (rd_b _ _ code pc (u1_ok h)).trans rfl
theorem oc_aload_n2 (h : xB code pc 44) : (Jvm.ClassFile.Decoder.instr pc) code pc = Except.ok (.aload_n 2, pc + 1) := (rd_b _ _ code pc (u1_ok h)).trans rfl
theorem oc_aload_n3 (h : xB code pc 45) : (Jvm.ClassFile.Decoder.instr pc) code pc = Except.ok (.aload_n 3, pc + 1) := (rd_b _ _ code pc (u1_ok h)).trans rfl
theorem oc_istore_n0 (h : xB code pc 59) : (Jvm.ClassFile.Decoder.instr pc) code pc = Except.ok (.istore_n 0, pc + 1) := (rd_b _ _ code pc (u1_ok h)).trans rfl
theorem oc_istore_n1 (h : xB code pc 60) : (Jvm.ClassFile.Decoder.instr pc) code pc = Except.ok (.istore_n 1, pc + 1) := (rd_b _ _ code pc (u1_ok h)).trans rfl
theorem oc_istore_n2 (h : xB code pc 61) : (Jvm.ClassFile.Decoder.instr pc) code pc = Except.ok (.istore_n 2, pc + 1) := (rd_b _ _ code pc (u1_ok h)).trans rfl
theorem oc_istore_n3 (h : xB code pc 62) : (Jvm.ClassFile.Decoder.instr pc) code pc = Except.ok (.istore_n 3, pc + 1) := (rd_b _ _ code pc (u1_ok h)).trans rfl
theorem oc_lstore_n0 (h : xB code pc 63) : (Jvm.ClassFile.Decoder.instr pc) code pc = Except.ok (.lstore_n 0, pc + 1) := (rd_b _ _ code pc (u1_ok h)).trans rfl
theorem oc_lstore_n1 (h : xB code pc 64) : (Jvm.ClassFile.Decoder.instr pc) code pc = Except.ok (.lstore_n 1, pc + 1) := (rd_b _ _ code pc (u1_ok h)).trans rfl
theorem oc_lstore_n2 (h : xB code pc 65) : (Jvm.ClassFile.Decoder.instr pc) code pc = Except.ok (.lstore_n 2, pc + 1) := (rd_b _ _ code pc (u1_ok h)).trans rfl
theorem oc_lstore_n3 (h : xB code pc 66) : (Jvm.ClassFile.Decoder.instr pc) code pc = Except.ok (.lstore_n 3, pc + 1) := (rd_b _ _ code pc (u1_ok h)).trans rfl
theorem oc_astore_n0 (h : xB code pc 75) : (Jvm.ClassFile.Decoder.instr pc) code pc = Except.ok (.astore_n 0, pc + 1) := (rd_b _ _ code pc (u1_ok h)).trans rfl
theorem oc_astore_n1 (h : xB code pc 76) : (Jvm.ClassFile.Decoder.instr pc) code pc = Except.ok (.astore_n 1, pc + 1) := (rd_b _ _ code pc (u1_ok h)).trans rfl
theorem oc_astore_n2 (h : xB code pc 77) : (Jvm.ClassFile.Decoder.instr pc) code pc = Except.ok (.astore_n 2, pc + 1) := (rd_b _ _ code pc (u1_ok h)).trans rfl
theorem oc_astore_n3 (h : xB code pc 78) : (Jvm.ClassFile.Decoder.instr pc) code pc = Except.ok (.astore_n 3, pc + 1) := (rd_b _ _ code pc (u1_ok h)).trans rfl
theorem oc_iconst0 (h : xB code pc 2) : (Jvm.ClassFile.Decoder.instr pc) code pc = Except.ok (.iconst (-1), pc + 1) := (rd_b _ _ code pc (u1_ok h)).trans rfl
theorem oc_iconst1 (h : xB code pc 3) : (Jvm.ClassFile.Decoder.instr pc) code pc = Except.ok (.iconst 0, pc + 1) := (rd_b _ _ code pc (u1_ok h)).trans rfl
theorem oc_iconst2 (h : xB code pc 4) : (Jvm.ClassFile.Decoder.instr pc) code pc = Except.ok (.iconst 1, pc + 1) := (rd_b _ _ code pc (u1_ok h)).trans rfl
theorem oc_iconst3 (h : xB code pc 5) : (Jvm.ClassFile.Decoder.instr pc) code pc = Except.ok (.iconst 2, pc + 1) := (rd_b _ _ code pc (u1_ok h)).trans rfl
theorem oc_iconst4 (h : xB code pc 6) : (Jvm.ClassFile.Decoder.instr pc) code pc = Except.ok (.iconst 3, pc + 1) := (rd_b _ _ code pc (u1_ok h)).trans rfl
theorem oc_iconst5 (h : xB code pc 7) : (Jvm.ClassFile.Decoder.instr pc) code pc = Except.ok (.iconst 4, pc + 1) := (rd_b _ _ code pc (u1_ok h)).trans rfl
theorem oc_iconst6 (h : xB code pc 8) : (Jvm.ClassFile.Decoder.instr pc) code pc = Except.ok (.iconst 5, pc + 1) := (rd_b _ _ code pc (u1_ok h)).trans rfl
theorem oc_lconst0 (h : xB code pc 9) : (Jvm.ClassFile.Decoder.instr pc) code pc = Except.ok (.lconst 0, pc + 1) := (rd_b _ _ code pc (u1_ok h)).trans rfl
theorem oc_lconst1 (h : xB code pc 10) : (Jvm.ClassFile.Decoder.instr pc) code pc = Except.ok (.lconst 1, pc + 1) := (rd_b _ _ code pc (u1_ok h)).trans rfl
theorem oc_ldc (h : xB code pc 18) {v : Nat} (hv : (Jvm.ClassFile.Reader.u1 : Jvm.ClassFile.Decoder Nat) code (pc + 1) = Except.ok (v, pc + 2)) : (Jvm.ClassFile.Decoder.instr pc) code pc = Except.ok (Jvm.ClassFile.Instr.ldc v, pc + 2) := (rd_b _ _ code pc (u1_ok h)).trans (rd_b (Jvm.ClassFile.Reader.u1 : Jvm.ClassFile.Decoder Nat) (fun v => pure (Jvm.ClassFile.Instr.ldc v)) _ _ hv)
theorem oc_iload (h : xB code pc 21) {v : Nat} (hv : (Jvm.ClassFile.Reader.u1 : Jvm.ClassFile.Decoder Nat) code (pc + 1) = Except.ok (v, pc + 2)) : (Jvm.ClassFile.Decoder.instr pc) code pc = Except.ok (Jvm.ClassFile.Instr.iload v, pc + 2) := (rd_b _ _ code pc (u1_ok h)).trans (rd_b (Jvm.ClassFile.Reader.u1 : Jvm.ClassFile.Decoder Nat) (fun v => pure (Jvm.ClassFile.Instr.iload v)) _ _ hv)
theorem oc_lload (h : xB code pc 22) {v : Nat} (hv : (Jvm.ClassFile.Reader.u1 : Jvm.ClassFile.Decoder Nat) code (pc + 1) = Except.ok (v, pc + 2)) : (Jvm.ClassFile.Decoder.instr pc) code pc = Except.ok (Jvm.ClassFile.Instr.lload v, pc + 2) := (rd_b _ _ code pc (u1_ok h)).trans (rd_b (Jvm.ClassFile.Reader.u1 : Jvm.ClassFile.Decoder Nat) (fun v => pure (Jvm.ClassFile.Instr.lload v)) _ _ hv)
theorem oc_aload (h : xB code pc 25) {v : Nat} (hv : (Jvm.ClassFile.Reader.u1 : Jvm.ClassFile.Decoder Nat) code (pc + 1) = Except.ok (v, pc + 2)) : (Jvm.ClassFile.Decoder.instr pc) code pc = Except.ok (Jvm.ClassFile.Instr.aload v, pc + 2) := (rd_b _ _ code pc (u1_ok h)).trans (rd_b (Jvm.ClassFile.Reader.u1 : Jvm.ClassFile.Decoder Nat) (fun v => pure (Jvm.ClassFile.Instr.aload v)) _ _ hv)
theorem oc_istore (h : xB code pc 54) {v : Nat} (hv : (Jvm.ClassFile.Reader.u1 : Jvm.ClassFile.Decoder Nat) code (pc + 1) = Except.ok (v, pc + 2)) : (Jvm.ClassFile.Decoder.instr pc) code pc = Except.ok (Jvm.ClassFile.Instr.istore v, pc + 2) := (rd_b _ _ code pc (u1_ok h)).trans (rd_b (Jvm.ClassFile.Reader.u1 : Jvm.ClassFile.Decoder Nat) (fun v => pure (Jvm.ClassFile.Instr.istore v)) _ _ hv)
theorem oc_lstore (h : xB code pc 55) {v : Nat} (hv : (Jvm.ClassFile.Reader.u1 : Jvm.ClassFile.Decoder Nat) code (pc + 1) = Except.ok (v, pc + 2)) : (Jvm.ClassFile.Decoder.instr pc) code pc = Except.ok (Jvm.ClassFile.Instr.lstore v, pc + 2) := (rd_b _ _ code pc (u1_ok h)).trans (rd_b (Jvm.ClassFile.Reader.u1 : Jvm.ClassFile.Decoder Nat) (fun v => pure (Jvm.ClassFile.Instr.lstore v)) _ _ hv)
theorem oc_astore (h : xB code pc 58) {v : Nat} (hv : (Jvm.ClassFile.Reader.u1 : Jvm.ClassFile.Decoder Nat) code (pc + 1) = Except.ok (v, pc + 2)) : (Jvm.ClassFile.Decoder.instr pc) code pc = Except.ok (Jvm.ClassFile.Instr.astore v, pc + 2) := (rd_b _ _ code pc (u1_ok h)).trans (rd_b (Jvm.ClassFile.Reader.u1 : Jvm.ClassFile.Decoder Nat) (fun v => pure (Jvm.ClassFile.Instr.astore v)) _ _ hv)
theorem oc_ldc_w (h : xB code pc 19) {v : Nat} (hv : (Jvm.ClassFile.Reader.u2 : Jvm.ClassFile.Decoder Nat) code (pc + 1) = Except.ok (v, pc + 3)) : (Jvm.ClassFile.Decoder.instr pc) code pc = Except.ok (Jvm.ClassFile.Instr.ldc_w v, pc + 3) := (rd_b _ _ code pc (u1_ok h)).trans (rd_b (Jvm.ClassFile.Reader.u2 : Jvm.ClassFile.Decoder Nat) (fun v => pure (Jvm.ClassFile.Instr.ldc_w v)) _ _ hv)
theorem oc_ldc2_w (h : xB code pc 20) {v : Nat} (hv : (Jvm.ClassFile.Reader.u2 : Jvm.ClassFile.Decoder Nat) code (pc + 1) = Except.ok (v, pc + 3)) : (Jvm.ClassFile.Decoder.instr pc) code pc = Except.ok (Jvm.ClassFile.Instr.ldc2_w v, pc + 3) := (rd_b _ _ code pc (u1_ok h)).trans (rd_b (Jvm.ClassFile.Reader.u2 : Jvm.ClassFile.Decoder Nat) (fun v => pure (Jvm.ClassFile.Instr.ldc2_w v)) _ _ hv)
theorem oc_getfield (h : xB code pc 180) {v : Nat} (hv : (Jvm.ClassFile.Reader.u2 : Jvm.ClassFile.Decoder Nat) code (pc + 1) = Except.ok (v, pc + 3)) : (Jvm.ClassFile.Decoder.instr pc) code pc = Except.ok (Jvm.ClassFile.Instr.getfield v, pc + 3) := (rd_b _ _ code pc (u1_ok h)).trans (rd_b (Jvm.ClassFile.Reader.u2 : Jvm.ClassFile.Decoder Nat) (fun v => pure (Jvm.ClassFile.Instr.getfield v)) _ _ hv)
theorem oc_putfield (h : xB code pc 181) {v : Nat} (hv : (Jvm.ClassFile.Reader.u2 : Jvm.ClassFile.Decoder Nat) code (pc + 1) = Except.ok (v, pc + 3)) : (Jvm.ClassFile.Decoder.instr pc) code pc = Except.ok (Jvm.ClassFile.Instr.putfield v, pc + 3) := (rd_b _ _ code pc (u1_ok h)).trans (rd_b (Jvm.ClassFile.Reader.u2 : Jvm.ClassFile.Decoder Nat) (fun v => pure (Jvm.ClassFile.Instr.putfield v)) _ _ hv)
theorem oc_invokevirtual (h : xB code pc 182) {v : Nat} (hv : (Jvm.ClassFile.Reader.u2 : Jvm.ClassFile.Decoder Nat) code (pc + 1) = Except.ok (v, pc + 3)) : (Jvm.ClassFile.Decoder.instr pc) code pc = Except.ok (Jvm.ClassFile.Instr.invokevirtual v, pc + 3) := (rd_b _ _ code pc (u1_ok h)).trans (rd_b (Jvm.ClassFile.Reader.u2 : Jvm.ClassFile.Decoder Nat) (fun v => pure (Jvm.ClassFile.Instr.invokevirtual v)) _ _ hv)
theorem oc_invokespecial (h : xB code pc 183) {v : Nat} (hv : (Jvm.ClassFile.Reader.u2 : Jvm.ClassFile.Decoder Nat) code (pc + 1) = Except.ok (v, pc + 3)) : (Jvm.ClassFile.Decoder.instr pc) code pc = Except.ok (Jvm.ClassFile.Instr.invokespecial v, pc + 3) := (rd_b _ _ code pc (u1_ok h)).trans (rd_b (Jvm.ClassFile.Reader.u2 : Jvm.ClassFile.Decoder Nat) (fun v => pure (Jvm.ClassFile.Instr.invokespecial v)) _ _ hv)
theorem oc_invokestatic (h : xB code pc 184) {v : Nat} (hv : (Jvm.ClassFile.Reader.u2 : Jvm.ClassFile.Decoder Nat) code (pc + 1) = Except.ok (v, pc + 3)) : (Jvm.ClassFile.Decoder.instr pc) code pc = Except.ok (Jvm.ClassFile.Instr.invokestatic v, pc + 3) := (rd_b _ _ code pc (u1_ok h)).trans (rd_b (Jvm.ClassFile.Reader.u2 : Jvm.ClassFile.Decoder Nat) (fun v => pure (Jvm.ClassFile.Instr.invokestatic v)) _ _ hv)
theorem oc_new (h : xB code pc 187) {v : Nat} (hv : (Jvm.ClassFile.Reader.u2 : Jvm.ClassFile.Decoder Nat) code (pc + 1) = Except.ok (v, pc + 3)) : (Jvm.ClassFile.Decoder.instr pc) code pc = Except.ok (Jvm.ClassFile.Instr.new v, pc + 3) := (rd_b _ _ code pc (u1_ok h)).trans (rd_b (Jvm.ClassFile.Reader.u2 : Jvm.ClassFile.Decoder Nat) (fun v => pure (Jvm.ClassFile.Instr.new v)) _ _ hv)
theorem oc_anewarray (h : xB code pc 189) {v : Nat} (hv : (Jvm.ClassFile.Reader.u2 : Jvm.ClassFile.Decoder Nat) code (pc + 1) = Except.ok (v, pc + 3)) : (Jvm.ClassFile.Decoder.instr pc) code pc = Except.ok (Jvm.ClassFile.Instr.anewarray v, pc + 3) := (rd_b _ _ code pc (u1_ok h)).trans (rd_b (Jvm.ClassFile.Reader.u2 : Jvm.ClassFile.Decoder Nat) (fun v => pure (Jvm.ClassFile.Instr.anewarray v)) _ _ hv)
theorem oc_sipush (h : xB code pc 17) {v : Int} (hv : (Jvm.ClassFile.Reader.s2 : Jvm.ClassFile.Decoder Int) code (pc + 1) = Except.ok (v, pc + 3)) : (Jvm.ClassFile.Decoder.instr pc) code pc = Except.ok (Jvm.ClassFile.Instr.sipush v, pc + 3) := (rd_b _ _ code pc (u1_ok h)).trans (rd_b (Jvm.ClassFile.Reader.s2 : Jvm.ClassFile.Decoder Int) (fun v => pure (Jvm.ClassFile.Instr.sipush v)) _ _ hv)
theorem oc_goto (h : xB code pc 167) {v : Int} (hv : (Jvm.ClassFile.Reader.s2 : Jvm.ClassFile.Decoder Int) code (pc + 1) = Except.ok (v, pc + 3)) : (Jvm.ClassFile.Decoder.instr pc) code pc = Except.ok (Jvm.ClassFile.Instr.goto v, pc + 3) := (rd_b _ _ code pc (u1_ok h)).trans (rd_b (Jvm.ClassFile.Reader.s2 : Jvm.ClassFile.Decoder Int) (fun v => pure (Jvm.ClassFile.Instr.goto v)) _ _ hv)
theorem oc_ifnull (h : xB code pc 198) {v : Int} (hv : (Jvm.ClassFile.Reader.s2 : Jvm.ClassFile.Decoder Int) code (pc + 1) = Except.ok (v, pc + 3)) : (Jvm.ClassFile.Decoder.instr pc) code pc = Except.ok (Jvm.ClassFile.Instr.ifnull v, pc + 3) := (rd_b _ _ code pc (u1_ok h)).trans (rd_b (Jvm.ClassFile.Reader.s2 : Jvm.ClassFile.Decoder Int) (fun v => pure (Jvm.ClassFile.Instr.ifnull v)) _ _ hv)
theorem oc_ifnonnull (h : xB code pc 199) {v : Int} (hv : (Jvm.ClassFile.Reader.s2 : Jvm.ClassFile.Decoder Int) code (pc + 1) = Except.ok (v, pc + 3)) : (Jvm.ClassFile.Decoder.instr pc) code pc = Except.ok (Jvm.ClassFile.Instr.ifnonnull v, pc + 3) := (rd_b _ _ code pc (u1_ok h)).trans (rd_b (Jvm.ClassFile.Reader.s2 : Jvm.ClassFile.Decoder Int) (fun v => pure (Jvm.ClassFile.Instr.ifnonnull v)) _ _ hv)
theorem oc_bipush (h : xB code pc 16) {v : Int} (hv : (Jvm.ClassFile.Reader.s1 : Jvm.ClassFile.Decoder Int) code (pc + 1) = Except.ok (v, pc + 2)) : (Jvm.ClassFile.Decoder.instr pc) code pc = Except.ok (Jvm.ClassFile.Instr.bipush v, pc + 2) := (rd_b _ _ code pc (u1_ok h)).trans (rd_b (Jvm.ClassFile.Reader.s1 : Jvm.ClassFile.Decoder Int) (fun v => pure (Jvm.ClassFile.Instr.bipush v)) _ _ hv)
theorem oc_ifCond_eq (h : xB code pc 153) {v : Int} (hv : (Jvm.ClassFile.Reader.s2 : Jvm.ClassFile.Decoder Int) code (pc + 1) = Except.ok (v, pc + 3)) : (Jvm.ClassFile.Decoder.instr pc) code pc = Except.ok (Jvm.ClassFile.Instr.ifCond .eq v, pc + 3) := (rd_b _ _ code pc (u1_ok h)).trans (rd_b (Jvm.ClassFile.Reader.s2 : Jvm.ClassFile.Decoder Int) (fun v => pure (Jvm.ClassFile.Instr.ifCond .eq v)) _ _ hv)
theorem oc_if_icmp_eq (h : xB code pc 159) {v : Int} (hv : (Jvm.ClassFile.Reader.s2 : Jvm.ClassFile.Decoder Int) code (pc + 1) = Except.ok (v, pc + 3)) : (Jvm.ClassFile.Decoder.instr pc) code pc = Except.ok (Jvm.ClassFile.Instr.if_icmp .eq v, pc + 3) := (rd_b _ _ code pc (u1_ok h)).trans (rd_b (Jvm.ClassFile.Reader.s2 : Jvm.ClassFile.Decoder Int) (fun v => pure (Jvm.ClassFile.Instr.if_icmp .eq v)) _ _ hv)
theorem oc_ifCond_ne (h : xB code pc 154) {v : Int} (hv : (Jvm.ClassFile.Reader.s2 : Jvm.ClassFile.Decoder Int) code (pc + 1) = Except.ok (v, pc + 3)) : (Jvm.ClassFile.Decoder.instr pc) code pc = Except.ok (Jvm.ClassFile.Instr.ifCond .ne v, pc + 3) := (rd_b _ _ code pc (u1_ok h)).trans (rd_b (Jvm.ClassFile.Reader.s2 : Jvm.ClassFile.Decoder Int) (fun v => pure (Jvm.ClassFile.Instr.ifCond .ne v)) _ _ hv)
theorem oc_if_icmp_ne (h : xB code pc 160) {v : Int} (hv : (Jvm.ClassFile.Reader.s2 : Jvm.ClassFile.Decoder Int) code (pc + 1) = Except.ok (v, pc + 3)) : (Jvm.ClassFile.Decoder.instr pc) code pc = Except.ok (Jvm.ClassFile.Instr.if_icmp .ne v, pc + 3) := (rd_b _ _ code pc (u1_ok h)).trans (rd_b (Jvm.ClassFile.Reader.s2 : Jvm.ClassFile.Decoder Int) (fun v => pure (Jvm.ClassFile.Instr.if_icmp .ne v)) _ _ hv)
theorem oc_ifCond_lt (h : xB code pc 155) {v : Int} (hv : (Jvm.ClassFile.Reader.s2 : Jvm.ClassFile.Decoder Int) code (pc + 1) = Except.ok (v, pc + 3)) : (Jvm.ClassFile.Decoder.instr pc) code pc = Except.ok (Jvm.ClassFile.Instr.ifCond .lt v, pc + 3) := (rd_b _ _ code pc (u1_ok h)).trans (rd_b (Jvm.ClassFile.Reader.s2 : Jvm.ClassFile.Decoder Int) (fun v => pure (Jvm.ClassFile.Instr.ifCond .lt v)) _ _ hv)
theorem oc_if_icmp_lt (h : xB code pc 161) {v : Int} (hv : (Jvm.ClassFile.Reader.s2 : Jvm.ClassFile.Decoder Int) code (pc + 1) = Except.ok (v, pc + 3)) : (Jvm.ClassFile.Decoder.instr pc) code pc = Except.ok (Jvm.ClassFile.Instr.if_icmp .lt v, pc + 3) := (rd_b _ _ code pc (u1_ok h)).trans (rd_b (Jvm.ClassFile.Reader.s2 : Jvm.ClassFile.Decoder Int) (fun v => pure (Jvm.ClassFile.Instr.if_icmp .lt v)) _ _ hv)
theorem oc_ifCond_ge (h : xB code pc 156) {v : Int} (hv : (Jvm.ClassFile.Reader.s2 : Jvm.ClassFile.Decoder Int) code (pc + 1) = Except.ok (v, pc + 3)) : (Jvm.ClassFile.Decoder.instr pc) code pc = Except.ok (Jvm.ClassFile.Instr.ifCond .ge v, pc + 3) := (rd_b _ _ code pc (u1_ok h)).trans (rd_b (Jvm.ClassFile.Reader.s2 : Jvm.ClassFile.Decoder Int) (fun v => pure (Jvm.ClassFile.Instr.ifCond .ge v)) _ _ hv)
theorem oc_if_icmp_ge (h : xB code pc 162) {v : Int} (hv : (Jvm.ClassFile.Reader.s2 : Jvm.ClassFile.Decoder Int) code (pc + 1) = Except.ok (v, pc + 3)) : (Jvm.ClassFile.Decoder.instr pc) code pc = Except.ok (Jvm.ClassFile.Instr.if_icmp .ge v, pc + 3) := (rd_b _ _ code pc (u1_ok h)).trans (rd_b (Jvm.ClassFile.Reader.s2 : Jvm.ClassFile.Decoder Int) (fun v => pure (Jvm.ClassFile.Instr.if_icmp .ge v)) _ _ hv)
theorem oc_ifCond_gt (h : xB code pc 157) {v : Int} (hv : (Jvm.ClassFile.Reader.s2 : Jvm.ClassFile.Decoder Int) code (pc + 1) = Except.ok (v, pc + 3)) : (Jvm.ClassFile.Decoder.instr pc) code pc = Except.ok (Jvm.ClassFile.Instr.ifCond .gt v, pc + 3) := (rd_b _ _ code pc (u1_ok h)).trans (rd_b (Jvm.ClassFile.Reader.s2 : Jvm.ClassFile.Decoder Int) (fun v => pure (Jvm.ClassFile.Instr.ifCond .gt v)) _ _ hv)
theorem oc_if_icmp_gt (h : xB code pc 163) {v : Int} (hv : (Jvm.ClassFile.Reader.s2 : Jvm.ClassFile.Decoder Int) code (pc + 1) = Except.ok (v, pc + 3)) : (Jvm.ClassFile.Decoder.instr pc) code pc = Except.ok (Jvm.ClassFile.Instr.if_icmp .gt v, pc + 3) := (rd_b _ _ code pc (u1_ok h)).trans (rd_b (Jvm.ClassFile.Reader.s2 : Jvm.ClassFile.Decoder Int) (fun v => pure (Jvm.ClassFile.Instr.if_icmp .gt v)) _ _ hv)
theorem oc_ifCond_le (h : xB code pc 158) {v : Int} (hv : (Jvm.ClassFile.Reader.s2 : Jvm.ClassFile.Decoder Int) code (pc + 1) = Except.ok (v, pc + 3)) : (Jvm.ClassFile.Decoder.instr pc) code pc = Except.ok (Jvm.ClassFile.Instr.ifCond .le v, pc + 3) := (rd_b _ _ code pc (u1_ok h)).trans (rd_b (Jvm.ClassFile.Reader.s2 : Jvm.ClassFile.Decoder Int) (fun v => pure (Jvm.ClassFile.Instr.ifCond .le v)) _ _ hv)
theorem oc_if_icmp_le (h : xB code pc 164) {v : Int} (hv : (Jvm.ClassFile.Reader.s2 : Jvm.ClassFile.Decoder Int) code (pc + 1) = Except.ok (v, pc + 3)) : (Jvm.ClassFile.Decoder.instr pc) code pc = Except.ok (Jvm.ClassFile.Instr.if_icmp .le v, pc + 3) := (rd_b _ _ code pc (u1_ok h)).trans (rd_b (Jvm.ClassFile.Reader.s2 : Jvm.ClassFile.Decoder Int) (fun v => pure (Jvm.ClassFile.Instr.if_icmp .le v)) _ _ hv)
end OPS
/-- the bytes that spell it -/
def xd_u (o : Int) (m : Nat) : Nat := (o % (m : Int)).toNat
def xd_e (I : Jvm.ClassFile.Instr) : Option (List Nat) := match I with
  | .aaload => some [50]
  | .aastore => some [83]
  | .aconst_null => some [1]
  | .areturn => some [176]
  | .arraylength => some [190]
  | .baload => some [51]
  | .bastore => some [84]
  | .dup => some [89]
  | .dup2 => some [92]
  | .i2b => some [145]
  | .i2c => some [146]
  | .i2l => some [133]
  | .iadd => some [96]
  | .iaload => some [46]
  | .iand => some [126]
  | .iastore => some [79]
  | .idiv => some [108]
  | .imul => some [104]
  | .ineg => some [116]
  | .ior => some [128]
  | .irem => some [112]
  | .ireturn => some [172]
  | .ishl => some [120]
  | .ishr => some [122]
  | .isub => some [100]
  | .iushr => some [124]
  | .ixor => some [130]
  | .l2i => some [136]
  | .ladd => some [97]
  | .laload => some [47]
  | .lastore => some [80]
  | .lcmp => some [148]
  | .ldiv => some [109]
  | .lmul => some [105]
  | .lneg => some [117]
  | .lrem => some [113]
  | .lreturn => some [173]
  | .lsub => some [101]
  | .pop => some [87]
  | .pop2 => some [88]
  | .return_ => some [177]
  | .iload_n k => some [26 + (k : Nat)]
  | .lload_n k => some [30 + (k : Nat)]
  | .aload_n k => some [42 + (k : Nat)]
  | .istore_n k => some [59 + (k : Nat)]
  | .lstore_n k => some [63 + (k : Nat)]
  | .astore_n k => some [75 + (k : Nat)]
  | .iconst c => if -1 ≤ c ∧ c ≤ 5 then some [(c + 3).toNat] else none
  | .lconst k => some [9 + (k : Nat)]
  | .ldc i => some [18, i]
  | .iload i => some [21, i]
  | .lload i => some [22, i]
  | .aload i => some [25, i]
  | .istore i => some [54, i]
  | .lstore i => some [55, i]
  | .astore i => some [58, i]
  | .ldc_w i => some [19, i / 256, i % 256]
  | .ldc2_w i => some [20, i / 256, i % 256]
  | .getfield i => some [180, i / 256, i % 256]
  | .putfield i => some [181, i / 256, i % 256]
  | .invokevirtual i => some [182, i / 256, i % 256]
  | .invokespecial i => some [183, i / 256, i % 256]
  | .invokestatic i => some [184, i / 256, i % 256]
  | .new i => some [187, i / 256, i % 256]
  | .anewarray i => some [189, i / 256, i % 256]
  | .bipush o => if -128 ≤ o ∧ o < 128 then some [16, xd_u o 256] else none
  | .sipush o => if -32768 ≤ o ∧ o < 32768 then some [17, xd_u o 65536 / 256, xd_u o 65536 % 256] else none
  | .goto o => if -32768 ≤ o ∧ o < 32768 then some [167, xd_u o 65536 / 256, xd_u o 65536 % 256] else none
  | .ifnull o => if -32768 ≤ o ∧ o < 32768 then some [198, xd_u o 65536 / 256, xd_u o 65536 % 256] else none
  | .ifnonnull o => if -32768 ≤ o ∧ o < 32768 then some [199, xd_u o 65536 / 256, xd_u o 65536 % 256] else none
  | .ifCond .eq o => if -32768 ≤ o ∧ o < 32768 then some [153, xd_u o 65536 / 256, xd_u o 65536 % 256] else none
  | .ifCond .ne o => if -32768 ≤ o ∧ o < 32768 then some [154, xd_u o 65536 / 256, xd_u o 65536 % 256] else none
  | .ifCond .lt o => if -32768 ≤ o ∧ o < 32768 then some [155, xd_u o 65536 / 256, xd_u o 65536 % 256] else none
  | .ifCond .ge o => if -32768 ≤ o ∧ o < 32768 then some [156, xd_u o 65536 / 256, xd_u o 65536 % 256] else none
  | .ifCond .gt o => if -32768 ≤ o ∧ o < 32768 then some [157, xd_u o 65536 / 256, xd_u o 65536 % 256] else none
  | .ifCond .le o => if -32768 ≤ o ∧ o < 32768 then some [158, xd_u o 65536 / 256, xd_u o 65536 % 256] else none
  | .if_icmp .eq o => if -32768 ≤ o ∧ o < 32768 then some [159, xd_u o 65536 / 256, xd_u o 65536 % 256] else none
  | .if_icmp .ne o => if -32768 ≤ o ∧ o < 32768 then some [160, xd_u o 65536 / 256, xd_u o 65536 % 256] else none
  | .if_icmp .lt o => if -32768 ≤ o ∧ o < 32768 then some [161, xd_u o 65536 / 256, xd_u o 65536 % 256] else none
  | .if_icmp .ge o => if -32768 ≤ o ∧ o < 32768 then some [162, xd_u o 65536 / 256, xd_u o 65536 % 256] else none
  | .if_icmp .gt o => if -32768 ≤ o ∧ o < 32768 then some [163, xd_u o 65536 / 256, xd_u o 65536 % 256] else none
  | .if_icmp .le o => if -32768 ≤ o ∧ o < 32768 then some [164, xd_u o 65536 / 256, xd_u o 65536 % 256] else none
  | _ => none
def xd_p : List UInt8 → List Nat → Bool
  | _, [] => true
  | a :: r, b :: l => Nat.beq a.toNat b && xd_p r l
  | [], _ :: _ => false
theorem xd_p_ok : ∀ {M : List UInt8} {l : List Nat}, xd_p M l = true → ∀ (j b : Nat), l[j]? = some b → ∃ a : UInt8, M[j]? = some a ∧ a.toNat = b
  | _, [], _, j, b, hb => by cases hb
  | a :: r, c :: l, h, j, b, hb => by
    unfold xd_p at h
    rw [Bool.and_eq_true] at h
    match j, hb with
    | 0, hb =>
      cases hb
      exact ⟨a, rfl, Nat.eq_of_beq_eq_true h.1⟩
    | j + 1, hb => exact xd_p_ok (M := r) (l := l) h.2 j b hb
  | [], _ :: _, h, _, _, _ => by cases h
def xd_by (code : ByteArray) (pc : Nat) (I : Jvm.ClassFile.Instr) (n : Nat) : Bool := match xd_e I with
  | some l => Nat.beq n l.length && xd_p (code.data.toList.drop pc) l
  | none => decide (decode code pc = .ok (I, n))
theorem xd_B {code : ByteArray} {pc : Nat} {l : List Nat} (h : xd_p (code.data.toList.drop pc) l = true) {j b : Nat} (hb : l[j]? = some b) : xB code (pc + j) b := by
  obtain ⟨a, h1, h2⟩ := xd_p_ok h j b hb
  rw [List.getElem?_drop] at h1
  exact ⟨a, h1, h2⟩
theorem sg_8 {o : Int} (h : -128 ≤ o ∧ o < 128) : Jvm.ClassFile.Reader.signed 8 (xd_u o 256) = o := by
  unfold Jvm.ClassFile.Reader.signed xd_u
  split <;> omega
theorem sg_16 {o : Int} (h : -32768 ≤ o ∧ o < 32768) : Jvm.ClassFile.Reader.signed 16 (xd_u o 65536 / 256 * 256 + xd_u o 65536 % 256) = o := by
  rw [show xd_u o 65536 / 256 * 256 + xd_u o 65536 % 256 = xd_u o 65536 by omega]
  unfold Jvm.ClassFile.Reader.signed xd_u
  split <;> omega
section DOK
variable {code : ByteArray} {pc : Nat} {l : List Nat}
theorem xd_s2 {o : Int} {b : Nat} {I : Jvm.ClassFile.Instr} (hI : ∀ {v : Int}, xB code pc b → (Jvm.ClassFile.Reader.s2 : Jvm.ClassFile.Decoder Int) code (pc + 1) = Except.ok (v, pc + 3) → v = o → (Jvm.ClassFile.Decoder.instr pc) code pc = Except.ok (I, pc + 3)) (h : (if -32768 ≤ o ∧ o < 32768 then some [b, xd_u o 65536 / 256, xd_u o 65536 % 256] else none) = some l) (hp : xd_p (code.data.toList.drop pc) l = true) : decode code pc = .ok (I, l.length) := by
  split at h
  · next ho =>
    cases h
    exact dc_of (hI (xd_B hp (j := 0) rfl) (s2_ok (xd_B hp (j := 1) rfl) (xd_B hp (j := 2) rfl)) (sg_16 ho))
  · cases h
end DOK
theorem xd_e_ok {code : ByteArray} {pc : Nat} {I : Jvm.ClassFile.Instr} {l : List Nat} (h : xd_e I = some l) (hp : xd_p (code.data.toList.drop pc) l = true) : decode code pc = .ok (I, l.length) := by
  unfold xd_e at h
  split at h
  · cases h
    exact dc_of (oc_aaload (xd_B hp (j := 0) rfl))
  · cases h
    exact dc_of (oc_aastore (xd_B hp (j := 0) rfl))
  · cases h
    exact dc_of (oc_aconst_null (xd_B hp (j := 0) rfl))
  · cases h
    exact dc_of (oc_areturn (xd_B hp (j := 0) rfl))
  · cases h
    exact dc_of (oc_arraylength (xd_B hp (j := 0) rfl))
  · cases h
    exact dc_of (oc_baload (xd_B hp (j := 0) rfl))
  · cases h
    exact dc_of (oc_bastore (xd_B hp (j := 0) rfl))
  · cases h
    exact dc_of (oc_dup (xd_B hp (j := 0) rfl))
  · cases h
    exact dc_of (oc_dup2 (xd_B hp (j := 0) rfl))
  · cases h
    exact dc_of (oc_i2b (xd_B hp (j := 0) rfl))
  · cases h
    exact dc_of (oc_i2c (xd_B hp (j := 0) rfl))
  · cases h
    exact dc_of (oc_i2l (xd_B hp (j := 0) rfl))
  · cases h
    exact dc_of (oc_iadd (xd_B hp (j := 0) rfl))
  · cases h
    exact dc_of (oc_iaload (xd_B hp (j := 0) rfl))
  · cases h
    exact dc_of (oc_iand (xd_B hp (j := 0) rfl))
  · cases h
    exact dc_of (oc_iastore (xd_B hp (j := 0) rfl))
  · cases h
    exact dc_of (oc_idiv (xd_B hp (j := 0) rfl))
  · cases h
    exact dc_of (oc_imul (xd_B hp (j := 0) rfl))
  · cases h
    exact dc_of (oc_ineg (xd_B hp (j := 0) rfl))
  · cases h
    exact dc_of (oc_ior (xd_B hp (j := 0) rfl))
  · cases h
    exact dc_of (oc_irem (xd_B hp (j := 0) rfl))
  · cases h
    exact dc_of (oc_ireturn (xd_B hp (j := 0) rfl))
  · cases h
    exact dc_of (oc_ishl (xd_B hp (j := 0) rfl))
  · cases h
    exact dc_of (oc_ishr (xd_B hp (j := 0) rfl))
  · cases h
    exact dc_of (oc_isub (xd_B hp (j := 0) rfl))
  · cases h
    exact dc_of (oc_iushr (xd_B hp (j := 0) rfl))
  · cases h
    exact dc_of (oc_ixor (xd_B hp (j := 0) rfl))
  · cases h
    exact dc_of (oc_l2i (xd_B hp (j := 0) rfl))
  · cases h
    exact dc_of (oc_ladd (xd_B hp (j := 0) rfl))
  · cases h
    exact dc_of (oc_laload (xd_B hp (j := 0) rfl))
  · cases h
    exact dc_of (oc_lastore (xd_B hp (j := 0) rfl))
  · cases h
    exact dc_of (oc_lcmp (xd_B hp (j := 0) rfl))
  · cases h
    exact dc_of (oc_ldiv (xd_B hp (j := 0) rfl))
  · cases h
    exact dc_of (oc_lmul (xd_B hp (j := 0) rfl))
  · cases h
    exact dc_of (oc_lneg (xd_B hp (j := 0) rfl))
  · cases h
    exact dc_of (oc_lrem (xd_B hp (j := 0) rfl))
  · cases h
    exact dc_of (oc_lreturn (xd_B hp (j := 0) rfl))
  · cases h
    exact dc_of (oc_lsub (xd_B hp (j := 0) rfl))
  · cases h
    exact dc_of (oc_pop (xd_B hp (j := 0) rfl))
  · cases h
    exact dc_of (oc_pop2 (xd_B hp (j := 0) rfl))
  · cases h
    exact dc_of (oc_return_ (xd_B hp (j := 0) rfl))
  · next k =>
    cases h
    match k, hp with
    | 0, hp => exact dc_of (oc_iload_n0 (xd_B hp (j := 0) rfl))
    | 1, hp => exact dc_of (oc_iload_n1 (xd_B hp (j := 0) rfl))
    | 2, hp => exact dc_of (oc_iload_n2 (xd_B hp (j := 0) rfl))
    | 3, hp => exact dc_of (oc_iload_n3 (xd_B hp (j := 0) rfl))
  · next k =>
    cases h
    match k, hp with
    | 0, hp => exact dc_of (oc_lload_n0 (xd_B hp (j := 0) rfl))
    | 1, hp => exact dc_of (oc_lload_n1 (xd_B hp (j := 0) rfl))
    | 2, hp => exact dc_of (oc_lload_n2 (xd_B hp (j := 0) rfl))
    | 3, hp => exact dc_of (oc_lload_n3 (xd_B hp (j := 0) rfl))
  · next k =>
    cases h
    match k, hp with
    | 0, hp => exact dc_of (oc_aload_n0 (xd_B hp (j := 0) rfl))
    | 1, hp => exact dc_of (oc_aload_n1 (xd_B hp (j := 0) rfl))
    | 2, hp => exact dc_of (oc_aload_n2 (xd_B hp (j := 0) rfl))
    | 3, hp => exact dc_of (oc_aload_n3 (xd_B hp (j := 0) rfl))
  · next k =>
    cases h
    match k, hp with
    | 0, hp => exact dc_of (oc_istore_n0 (xd_B hp (j := 0) rfl))
    | 1, hp => exact dc_of (oc_istore_n1 (xd_B hp (j := 0) rfl))
    | 2, hp => exact dc_of (oc_istore_n2 (xd_B hp (j := 0) rfl))
    | 3, hp => exact dc_of (oc_istore_n3 (xd_B hp (j := 0) rfl))
  · next k =>
    cases h
    match k, hp with
    | 0, hp => exact dc_of (oc_lstore_n0 (xd_B hp (j := 0) rfl))
    | 1, hp => exact dc_of (oc_lstore_n1 (xd_B hp (j := 0) rfl))
    | 2, hp => exact dc_of (oc_lstore_n2 (xd_B hp (j := 0) rfl))
    | 3, hp => exact dc_of (oc_lstore_n3 (xd_B hp (j := 0) rfl))
  · next k =>
    cases h
    match k, hp with
    | 0, hp => exact dc_of (oc_astore_n0 (xd_B hp (j := 0) rfl))
    | 1, hp => exact dc_of (oc_astore_n1 (xd_B hp (j := 0) rfl))
    | 2, hp => exact dc_of (oc_astore_n2 (xd_B hp (j := 0) rfl))
    | 3, hp => exact dc_of (oc_astore_n3 (xd_B hp (j := 0) rfl))
  · next c =>
    split at h
    · next hc =>
      cases h
      have hc2 : c = -1 ∨ c = 0 ∨ c = 1 ∨ c = 2 ∨ c = 3 ∨ c = 4 ∨ c = 5 := by omega
      rcases hc2 with rfl | rfl | rfl | rfl | rfl | rfl | rfl
      · exact dc_of (oc_iconst0 (xd_B hp (j := 0) rfl))
      · exact dc_of (oc_iconst1 (xd_B hp (j := 0) rfl))
      · exact dc_of (oc_iconst2 (xd_B hp (j := 0) rfl))
      · exact dc_of (oc_iconst3 (xd_B hp (j := 0) rfl))
      · exact dc_of (oc_iconst4 (xd_B hp (j := 0) rfl))
      · exact dc_of (oc_iconst5 (xd_B hp (j := 0) rfl))
      · exact dc_of (oc_iconst6 (xd_B hp (j := 0) rfl))
    · cases h
  · next k =>
    cases h
    match k, hp with
    | 0, hp => exact dc_of (oc_lconst0 (xd_B hp (j := 0) rfl))
    | 1, hp => exact dc_of (oc_lconst1 (xd_B hp (j := 0) rfl))
  · cases h
    exact dc_of (oc_ldc (xd_B hp (j := 0) rfl) (u1_ok (xd_B hp (j := 1) rfl)))
  · cases h
    exact dc_of (oc_iload (xd_B hp (j := 0) rfl) (u1_ok (xd_B hp (j := 1) rfl)))
  · cases h
    exact dc_of (oc_lload (xd_B hp (j := 0) rfl) (u1_ok (xd_B hp (j := 1) rfl)))
  · cases h
    exact dc_of (oc_aload (xd_B hp (j := 0) rfl) (u1_ok (xd_B hp (j := 1) rfl)))
  · cases h
    exact dc_of (oc_istore (xd_B hp (j := 0) rfl) (u1_ok (xd_B hp (j := 1) rfl)))
  · cases h
    exact dc_of (oc_lstore (xd_B hp (j := 0) rfl) (u1_ok (xd_B hp (j := 1) rfl)))
  · cases h
    exact dc_of (oc_astore (xd_B hp (j := 0) rfl) (u1_ok (xd_B hp (j := 1) rfl)))
  · next i =>
    cases h
    have h1 := oc_ldc_w (xd_B hp (j := 0) rfl) (u2_ok (xd_B hp (j := 1) rfl) (xd_B hp (j := 2) rfl))
    rw [show i / 256 * 256 + i % 256 = i by omega] at h1
    exact dc_of h1
  · next i =>
    cases h
    have h1 := oc_ldc2_w (xd_B hp (j := 0) rfl) (u2_ok (xd_B hp (j := 1) rfl) (xd_B hp (j := 2) rfl))
    rw [show i / 256 * 256 + i % 256 = i by omega] at h1
    exact dc_of h1
  · next i =>
    cases h
    have h1 := oc_getfield (xd_B hp (j := 0) rfl) (u2_ok (xd_B hp (j := 1) rfl) (xd_B hp (j := 2) rfl))
    rw [show i / 256 * 256 + i % 256 = i by omega] at h1
    exact dc_of h1
  · next i =>
    cases h
    have h1 := oc_putfield (xd_B hp (j := 0) rfl) (u2_ok (xd_B hp (j := 1) rfl) (xd_B hp (j := 2) rfl))
    rw [show i / 256 * 256 + i % 256 = i by omega] at h1
    exact dc_of h1
  · next i =>
    cases h
    have h1 := oc_invokevirtual (xd_B hp (j := 0) rfl) (u2_ok (xd_B hp (j := 1) rfl) (xd_B hp (j := 2) rfl))
    rw [show i / 256 * 256 + i % 256 = i by omega] at h1
    exact dc_of h1
  · next i =>
    cases h
    have h1 := oc_invokespecial (xd_B hp (j := 0) rfl) (u2_ok (xd_B hp (j := 1) rfl) (xd_B hp (j := 2) rfl))
    rw [show i / 256 * 256 + i % 256 = i by omega] at h1
    exact dc_of h1
  · next i =>
    cases h
    have h1 := oc_invokestatic (xd_B hp (j := 0) rfl) (u2_ok (xd_B hp (j := 1) rfl) (xd_B hp (j := 2) rfl))
    rw [show i / 256 * 256 + i % 256 = i by omega] at h1
    exact dc_of h1
  · next i =>
    cases h
    have h1 := oc_new (xd_B hp (j := 0) rfl) (u2_ok (xd_B hp (j := 1) rfl) (xd_B hp (j := 2) rfl))
    rw [show i / 256 * 256 + i % 256 = i by omega] at h1
    exact dc_of h1
  · next i =>
    cases h
    have h1 := oc_anewarray (xd_B hp (j := 0) rfl) (u2_ok (xd_B hp (j := 1) rfl) (xd_B hp (j := 2) rfl))
    rw [show i / 256 * 256 + i % 256 = i by omega] at h1
    exact dc_of h1
  · next o =>
    split at h
    · next ho =>
      cases h
      have h1 := oc_bipush (xd_B hp (j := 0) rfl) (s1_ok (xd_B hp (j := 1) rfl))
      rw [sg_8 ho] at h1
      exact dc_of h1
    · cases h
  · exact xd_s2 (fun h1 h2 e => by subst e; exact oc_sipush h1 h2) h hp
  · exact xd_s2 (fun h1 h2 e => by subst e; exact oc_goto h1 h2) h hp
  · exact xd_s2 (fun h1 h2 e => by subst e; exact oc_ifnull h1 h2) h hp
  · exact xd_s2 (fun h1 h2 e => by subst e; exact oc_ifnonnull h1 h2) h hp
  · exact xd_s2 (fun h1 h2 e => by subst e; exact oc_ifCond_eq h1 h2) h hp
  · exact xd_s2 (fun h1 h2 e => by subst e; exact oc_ifCond_ne h1 h2) h hp
  · exact xd_s2 (fun h1 h2 e => by subst e; exact oc_ifCond_lt h1 h2) h hp
  · exact xd_s2 (fun h1 h2 e => by subst e; exact oc_ifCond_ge h1 h2) h hp
  · exact xd_s2 (fun h1 h2 e => by subst e; exact oc_ifCond_gt h1 h2) h hp
  · exact xd_s2 (fun h1 h2 e => by subst e; exact oc_ifCond_le h1 h2) h hp
  · exact xd_s2 (fun h1 h2 e => by subst e; exact oc_if_icmp_eq h1 h2) h hp
  · exact xd_s2 (fun h1 h2 e => by subst e; exact oc_if_icmp_ne h1 h2) h hp
  · exact xd_s2 (fun h1 h2 e => by subst e; exact oc_if_icmp_lt h1 h2) h hp
  · exact xd_s2 (fun h1 h2 e => by subst e; exact oc_if_icmp_ge h1 h2) h hp
  · exact xd_s2 (fun h1 h2 e => by subst e; exact oc_if_icmp_gt h1 h2) h hp
  · exact xd_s2 (fun h1 h2 e => by subst e; exact oc_if_icmp_le h1 h2) h hp
  · cases h
theorem xd_ok {code : ByteArray} {pc n : Nat} {I : Jvm.ClassFile.Instr} (h : xd_by code pc I n = true) : decode code pc = .ok (I, n) := by
  unfold xd_by at h
  split at h
  · next l hl =>
    rw [Bool.and_eq_true] at h
    rw [Nat.eq_of_beq_eq_true h.1]
    exact xd_e_ok hl h.2
  · exact of_decide_eq_true h
end
