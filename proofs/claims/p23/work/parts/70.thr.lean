/-! by hand: the greatest common divisor, and through (printed in part by wip/e2/thr.py) -/
theorem qg_0 : xe_look (xc 192) 0 = some (.lload_n 0, 1, 0, 0, 0) := by decide +kernel
theorem qg_1 : xe_look (xc 192) 1 = some (.lconst 0, 1, 0, 0, 0) := by decide +kernel
theorem qg_2 : xe_look (xc 192) 2 = some (.lcmp, 1, 0, 0, 0) := by decide +kernel
theorem qg_3 : xe_look (xc 192) 3 = some (.ifCond .ge 8, 3, 0, 0, 0) := by decide +kernel
theorem qg_6 : xe_look (xc 192) 6 = some (.lload_n 0, 1, 0, 0, 0) := by decide +kernel
theorem qg_7 : xe_look (xc 192) 7 = some (.lneg, 1, 0, 0, 0) := by decide +kernel
theorem qg_8 : xe_look (xc 192) 8 = some (.goto 4, 3, 0, 0, 0) := by decide +kernel
theorem qg_11 : xe_look (xc 192) 11 = some (.lload_n 0, 1, 0, 0, 0) := by decide +kernel
theorem qg_12 : xe_look (xc 192) 12 = some (.lstore 4, 2, 0, 0, 0) := by decide +kernel
theorem qg_14 : xe_look (xc 192) 14 = some (.lload_n 2, 1, 0, 0, 0) := by decide +kernel
theorem qg_15 : xe_look (xc 192) 15 = some (.lstore 6, 2, 0, 0, 0) := by decide +kernel
theorem qg_17 : xe_look (xc 192) 17 = some (.lload 6, 2, 0, 0, 0) := by decide +kernel
theorem qg_19 : xe_look (xc 192) 19 = some (.lconst 0, 1, 0, 0, 0) := by decide +kernel
theorem qg_20 : xe_look (xc 192) 20 = some (.lcmp, 1, 0, 0, 0) := by decide +kernel
theorem qg_21 : xe_look (xc 192) 21 = some (.ifCond .eq 21, 3, 0, 0, 0) := by decide +kernel
theorem qg_24 : xe_look (xc 192) 24 = some (.lload 4, 2, 0, 0, 0) := by decide +kernel
theorem qg_26 : xe_look (xc 192) 26 = some (.lload 6, 2, 0, 0, 0) := by decide +kernel
theorem qg_28 : xe_look (xc 192) 28 = some (.lrem, 1, 0, 0, 0) := by decide +kernel
theorem qg_29 : xe_look (xc 192) 29 = some (.lstore 8, 2, 0, 0, 0) := by decide +kernel
theorem qg_31 : xe_look (xc 192) 31 = some (.lload 6, 2, 0, 0, 0) := by decide +kernel
theorem qg_33 : xe_look (xc 192) 33 = some (.lstore 4, 2, 0, 0, 0) := by decide +kernel
theorem qg_35 : xe_look (xc 192) 35 = some (.lload 8, 2, 0, 0, 0) := by decide +kernel
theorem qg_37 : xe_look (xc 192) 37 = some (.lstore 6, 2, 0, 0, 0) := by decide +kernel
theorem qg_39 : xe_look (xc 192) 39 = some (.goto (-22), 3, 0, 0, 0) := by decide +kernel
theorem qg_42 : xe_look (xc 192) 42 = some (.lload 4, 2, 0, 0, 0) := by decide +kernel
theorem qg_44 : xe_look (xc 192) 44 = some (.lreturn, 1, 0, 0, 0) := by decide +kernel
theorem qt_0 : xe_look (xc 262) 0 = some (.lload_n 0, 1, 0, 0, 0) := by decide +kernel
theorem qt_1 : xe_look (xc 262) 1 = some (.lload_n 2, 1, 0, 0, 0) := by decide +kernel
theorem qt_2 : xe_look (xc 262) 2 = some (.invokestatic 430, 3, 0, 192, 1283) := by decide +kernel
theorem qt_5 : xe_look (xc 262) 5 = some (.lstore 5, 2, 0, 0, 0) := by decide +kernel
theorem qt_7 : xe_look (xc 262) 7 = some (.iload 4, 2, 0, 0, 0) := by decide +kernel
theorem qt_9 : xe_look (xc 262) 9 = some (.ifCond .ne 10, 3, 0, 0, 0) := by decide +kernel
theorem qt_12 : xe_look (xc 262) 12 = some (.lload_n 0, 1, 0, 0, 0) := by decide +kernel
theorem qt_13 : xe_look (xc 262) 13 = some (.lload 5, 2, 0, 0, 0) := by decide +kernel
theorem qt_15 : xe_look (xc 262) 15 = some (.ldiv, 1, 0, 0, 0) := by decide +kernel
theorem qt_16 : xe_look (xc 262) 16 = some (.goto 7, 3, 0, 0, 0) := by decide +kernel
theorem qt_19 : xe_look (xc 262) 19 = some (.lload_n 2, 1, 0, 0, 0) := by decide +kernel
theorem qt_20 : xe_look (xc 262) 20 = some (.lload 5, 2, 0, 0, 0) := by decide +kernel
theorem qt_22 : xe_look (xc 262) 22 = some (.ldiv, 1, 0, 0, 0) := by decide +kernel
theorem qt_23 : xe_look (xc 262) 23 = some (.lreturn, 1, 0, 0, 0) := by decide +kernel
theorem pb_goto {pc : Nat} {o : Int} {st : List pv} (h0 : 0 ≤ (pc : Int) + o) : px_bf (.goto o) pc st = some (px_tg pc o, st) := if_pos h0
theorem pb_eq_t {pc : Nat} {o : Int} {x : Int32} {r : List pv} (h0 : 0 ≤ (pc : Int) + o) (h : x = 0) : px_bf (.ifCond .eq o) pc (.inl x :: r) = some (px_tg pc o, r) := by
  show (if 0 ≤ (pc : Int) + o then (if x = 0 then some (px_tg pc o, r) else some (pc + 3, r)) else none) = _
  rw [if_pos h0, if_pos h]
theorem pb_eq_f {pc : Nat} {o : Int} {x : Int32} {r : List pv} (h0 : 0 ≤ (pc : Int) + o) (h : ¬ (x = 0)) : px_bf (.ifCond .eq o) pc (.inl x :: r) = some (pc + 3, r) := by
  show (if 0 ≤ (pc : Int) + o then (if x = 0 then some (px_tg pc o, r) else some (pc + 3, r)) else none) = _
  rw [if_pos h0, if_neg h]
theorem pb_ne_f {pc : Nat} {o : Int} {x : Int32} {r : List pv} (h0 : 0 ≤ (pc : Int) + o) (h : x = 0) : px_bf (.ifCond .ne o) pc (.inl x :: r) = some (pc + 3, r) := by
  show (if 0 ≤ (pc : Int) + o then (if x = 0 then some (pc + 3, r) else some (px_tg pc o, r)) else none) = _
  rw [if_pos h0, if_pos h]
theorem pb_ne_t {pc : Nat} {o : Int} {x : Int32} {r : List pv} (h0 : 0 ≤ (pc : Int) + o) (h : ¬ (x = 0)) : px_bf (.ifCond .ne o) pc (.inl x :: r) = some (px_tg pc o, r) := by
  show (if 0 ≤ (pc : Int) + o then (if x = 0 then some (pc + 3, r) else some (px_tg pc o, r)) else none) = _
  rw [if_pos h0, if_neg h]
theorem pb_lt_t {pc : Nat} {o : Int} {x : Int32} {r : List pv} (h0 : 0 ≤ (pc : Int) + o) (h : x < 0) : px_bf (.ifCond .lt o) pc (.inl x :: r) = some (px_tg pc o, r) := by
  show (if 0 ≤ (pc : Int) + o then (if x < 0 then some (px_tg pc o, r) else some (pc + 3, r)) else none) = _
  rw [if_pos h0, if_pos h]
theorem pb_lt_f {pc : Nat} {o : Int} {x : Int32} {r : List pv} (h0 : 0 ≤ (pc : Int) + o) (h : ¬ (x < 0)) : px_bf (.ifCond .lt o) pc (.inl x :: r) = some (pc + 3, r) := by
  show (if 0 ≤ (pc : Int) + o then (if x < 0 then some (px_tg pc o, r) else some (pc + 3, r)) else none) = _
  rw [if_pos h0, if_neg h]
theorem pb_ge_f {pc : Nat} {o : Int} {x : Int32} {r : List pv} (h0 : 0 ≤ (pc : Int) + o) (h : x < 0) : px_bf (.ifCond .ge o) pc (.inl x :: r) = some (pc + 3, r) := by
  show (if 0 ≤ (pc : Int) + o then (if x < 0 then some (pc + 3, r) else some (px_tg pc o, r)) else none) = _
  rw [if_pos h0, if_pos h]
theorem pb_ge_t {pc : Nat} {o : Int} {x : Int32} {r : List pv} (h0 : 0 ≤ (pc : Int) + o) (h : ¬ (x < 0)) : px_bf (.ifCond .ge o) pc (.inl x :: r) = some (px_tg pc o, r) := by
  show (if 0 ≤ (pc : Int) + o then (if x < 0 then some (pc + 3, r) else some (px_tg pc o, r)) else none) = _
  rw [if_pos h0, if_neg h]
theorem pb_gt_t {pc : Nat} {o : Int} {x : Int32} {r : List pv} (h0 : 0 ≤ (pc : Int) + o) (h : 0 < x) : px_bf (.ifCond .gt o) pc (.inl x :: r) = some (px_tg pc o, r) := by
  show (if 0 ≤ (pc : Int) + o then (if 0 < x then some (px_tg pc o, r) else some (pc + 3, r)) else none) = _
  rw [if_pos h0, if_pos h]
theorem pb_gt_f {pc : Nat} {o : Int} {x : Int32} {r : List pv} (h0 : 0 ≤ (pc : Int) + o) (h : ¬ (0 < x)) : px_bf (.ifCond .gt o) pc (.inl x :: r) = some (pc + 3, r) := by
  show (if 0 ≤ (pc : Int) + o then (if 0 < x then some (px_tg pc o, r) else some (pc + 3, r)) else none) = _
  rw [if_pos h0, if_neg h]
theorem pb_le_f {pc : Nat} {o : Int} {x : Int32} {r : List pv} (h0 : 0 ≤ (pc : Int) + o) (h : 0 < x) : px_bf (.ifCond .le o) pc (.inl x :: r) = some (pc + 3, r) := by
  show (if 0 ≤ (pc : Int) + o then (if 0 < x then some (pc + 3, r) else some (px_tg pc o, r)) else none) = _
  rw [if_pos h0, if_pos h]
theorem pb_le_t {pc : Nat} {o : Int} {x : Int32} {r : List pv} (h0 : 0 ≤ (pc : Int) + o) (h : ¬ (0 < x)) : px_bf (.ifCond .le o) pc (.inl x :: r) = some (px_tg pc o, r) := by
  show (if 0 ≤ (pc : Int) + o then (if 0 < x then some (pc + 3, r) else some (px_tg pc o, r)) else none) = _
  rw [if_pos h0, if_neg h]
theorem pc_eq_t {pc : Nat} {o : Int} {x y : Int32} {r : List pv} (h0 : 0 ≤ (pc : Int) + o) (h : x = y) : px_bf (.if_icmp .eq o) pc (.inl y :: .inl x :: r) = some (px_tg pc o, r) := by
  show (if 0 ≤ (pc : Int) + o then (if x = y then some (px_tg pc o, r) else some (pc + 3, r)) else none) = _
  rw [if_pos h0, if_pos h]
theorem pc_eq_f {pc : Nat} {o : Int} {x y : Int32} {r : List pv} (h0 : 0 ≤ (pc : Int) + o) (h : ¬ (x = y)) : px_bf (.if_icmp .eq o) pc (.inl y :: .inl x :: r) = some (pc + 3, r) := by
  show (if 0 ≤ (pc : Int) + o then (if x = y then some (px_tg pc o, r) else some (pc + 3, r)) else none) = _
  rw [if_pos h0, if_neg h]
theorem pc_ne_f {pc : Nat} {o : Int} {x y : Int32} {r : List pv} (h0 : 0 ≤ (pc : Int) + o) (h : x = y) : px_bf (.if_icmp .ne o) pc (.inl y :: .inl x :: r) = some (pc + 3, r) := by
  show (if 0 ≤ (pc : Int) + o then (if x = y then some (pc + 3, r) else some (px_tg pc o, r)) else none) = _
  rw [if_pos h0, if_pos h]
theorem pc_ne_t {pc : Nat} {o : Int} {x y : Int32} {r : List pv} (h0 : 0 ≤ (pc : Int) + o) (h : ¬ (x = y)) : px_bf (.if_icmp .ne o) pc (.inl y :: .inl x :: r) = some (px_tg pc o, r) := by
  show (if 0 ≤ (pc : Int) + o then (if x = y then some (pc + 3, r) else some (px_tg pc o, r)) else none) = _
  rw [if_pos h0, if_neg h]
theorem pc_lt_t {pc : Nat} {o : Int} {x y : Int32} {r : List pv} (h0 : 0 ≤ (pc : Int) + o) (h : x < y) : px_bf (.if_icmp .lt o) pc (.inl y :: .inl x :: r) = some (px_tg pc o, r) := by
  show (if 0 ≤ (pc : Int) + o then (if x < y then some (px_tg pc o, r) else some (pc + 3, r)) else none) = _
  rw [if_pos h0, if_pos h]
theorem pc_lt_f {pc : Nat} {o : Int} {x y : Int32} {r : List pv} (h0 : 0 ≤ (pc : Int) + o) (h : ¬ (x < y)) : px_bf (.if_icmp .lt o) pc (.inl y :: .inl x :: r) = some (pc + 3, r) := by
  show (if 0 ≤ (pc : Int) + o then (if x < y then some (px_tg pc o, r) else some (pc + 3, r)) else none) = _
  rw [if_pos h0, if_neg h]
theorem pc_ge_f {pc : Nat} {o : Int} {x y : Int32} {r : List pv} (h0 : 0 ≤ (pc : Int) + o) (h : x < y) : px_bf (.if_icmp .ge o) pc (.inl y :: .inl x :: r) = some (pc + 3, r) := by
  show (if 0 ≤ (pc : Int) + o then (if x < y then some (pc + 3, r) else some (px_tg pc o, r)) else none) = _
  rw [if_pos h0, if_pos h]
theorem pc_ge_t {pc : Nat} {o : Int} {x y : Int32} {r : List pv} (h0 : 0 ≤ (pc : Int) + o) (h : ¬ (x < y)) : px_bf (.if_icmp .ge o) pc (.inl y :: .inl x :: r) = some (px_tg pc o, r) := by
  show (if 0 ≤ (pc : Int) + o then (if x < y then some (pc + 3, r) else some (px_tg pc o, r)) else none) = _
  rw [if_pos h0, if_neg h]
theorem pc_gt_t {pc : Nat} {o : Int} {x y : Int32} {r : List pv} (h0 : 0 ≤ (pc : Int) + o) (h : y < x) : px_bf (.if_icmp .gt o) pc (.inl y :: .inl x :: r) = some (px_tg pc o, r) := by
  show (if 0 ≤ (pc : Int) + o then (if y < x then some (px_tg pc o, r) else some (pc + 3, r)) else none) = _
  rw [if_pos h0, if_pos h]
theorem pc_gt_f {pc : Nat} {o : Int} {x y : Int32} {r : List pv} (h0 : 0 ≤ (pc : Int) + o) (h : ¬ (y < x)) : px_bf (.if_icmp .gt o) pc (.inl y :: .inl x :: r) = some (pc + 3, r) := by
  show (if 0 ≤ (pc : Int) + o then (if y < x then some (px_tg pc o, r) else some (pc + 3, r)) else none) = _
  rw [if_pos h0, if_neg h]
theorem pc_le_f {pc : Nat} {o : Int} {x y : Int32} {r : List pv} (h0 : 0 ≤ (pc : Int) + o) (h : y < x) : px_bf (.if_icmp .le o) pc (.inl y :: .inl x :: r) = some (pc + 3, r) := by
  show (if 0 ≤ (pc : Int) + o then (if y < x then some (pc + 3, r) else some (px_tg pc o, r)) else none) = _
  rw [if_pos h0, if_pos h]
theorem pc_le_t {pc : Nat} {o : Int} {x y : Int32} {r : List pv} (h0 : 0 ≤ (pc : Int) + o) (h : ¬ (y < x)) : px_bf (.if_icmp .le o) pc (.inl y :: .inl x :: r) = some (px_tg pc o, r) := by
  show (if 0 ≤ (pc : Int) + o then (if y < x then some (pc + 3, r) else some (px_tg pc o, r)) else none) = _
  rw [if_pos h0, if_neg h]
abbrev pvL (x : Int64) : pv := .inr (.inl x)
theorem gcd_r {x y : Int64} (hy : y ≠ 0) : (x - x / y * y).toInt.natAbs < y.toInt.natAbs ∧ (0 ≤ x.toInt → 0 ≤ y.toInt → 0 ≤ (x - x / y * y).toInt) := by
  have hy0 : y.toInt ≠ 0 := fun z => hy (Int64.toInt_inj.mp (by rw [z]; rfl))
  rw [Jvm.Kit.i64_rem]
  refine ⟨?_, fun h _ => Int.tmod_nonneg _ h⟩
  have h1 := Int.tmod_lt_of_pos x.toInt (b := y.toInt.natAbs) (by omega)
  have h2 : x.toInt.tmod y.toInt = x.toInt.tmod (y.toInt.natAbs : Int) := by
    rcases Int.natAbs_eq y.toInt with e | e
    · rw [← e]
    · conv => lhs; rw [e, Int.tmod_neg]
  have h3 := Int.tmod_lt_of_pos (-x.toInt) (b := y.toInt.natAbs) (by omega)
  rw [Int.neg_tmod] at h3
  rw [h2]
  omega
def g_P (h : pH) (x y : Int64) (o : Option pv × pH) : Prop := o.2 = h ∧ ∃ z : Int64, o.1 = some (pvL z) ∧ z ≠ 0 ∧ (0 ≤ x.toInt → 0 ≤ y.toInt → 0 < z.toInt ∧ (y ≠ 0 → z.toInt ≤ y.toInt) ∧ (y = 0 → z = x))
set_option maxHeartbeats 2000000 in
theorem gcd_end {d : Nat} {h : pH} {x y : Int64} {T : List (Nat × pv)} (hy : y = 0) (hx : x ≠ 0) : t_X d 192 17 ((6, pvL y) :: (4, pvL x) :: T) [] h (g_P h x y) := by
  refine t_0 qg_17 rfl rfl ?_
  refine t_0 qg_19 rfl rfl ?_
  refine t_0 qg_20 rfl rfl ?_
  refine t_1 qg_21 rfl (pb_eq_t (pc := 21) (by decide) ((lg_cmp_eq y 0).mpr hy)) ?_
  refine t_0 qg_42 rfl rfl ?_
  refine t_5 qg_44 rfl rfl ?_
  refine ⟨rfl, x, rfl, hx, fun a b => ⟨?_, fun z => absurd hy z, fun _ => rfl⟩⟩
  have : x.toInt ≠ 0 := fun z => hx (Int64.toInt_inj.mp (by rw [z]; rfl))
  omega
set_option maxHeartbeats 2000000 in
theorem gcd_loop {d : Nat} {h : pH} {a b : Int64} : ∀ (m : Nat) (x y r : Int64), y.toInt.natAbs ≤ m → (x ≠ 0 ∨ y ≠ 0) → t_X d 192 17 [(6, pvL y), (4, pvL x), (8, pvL r), (0, pvL a), (2, pvL b)] [] h (g_P h x y) := by
  intro m
  induction m with
  | zero =>
    intro x y r hm hne
    have hy : y = 0 := Int64.toInt_inj.mp (by rw [show y.toInt = 0 by omega]; rfl)
    exact gcd_end hy (hne.resolve_right (fun z => z hy))
  | succ m ih =>
    intro x y r hm hne
    by_cases hy : y = 0
    · exact gcd_end hy (hne.resolve_right (fun z => z hy))
    · have hr := gcd_r (x := x) hy
      refine t_0 qg_17 rfl rfl ?_
      refine t_0 qg_19 rfl rfl ?_
      refine t_0 qg_20 rfl rfl ?_
      refine t_1 qg_21 rfl (pb_eq_f (pc := 21) (by decide) (fun z => hy ((lg_cmp_eq y 0).mp z))) ?_
      refine t_0 qg_24 rfl rfl ?_
      refine t_0 qg_26 rfl rfl ?_
      refine t_0 qg_28 rfl (if_neg hy) ?_
      refine t_2 qg_29 rfl rfl ?_
      refine t_0 qg_31 rfl rfl ?_
      refine t_2 qg_33 rfl rfl ?_
      refine t_0 qg_35 rfl rfl ?_
      refine t_2 qg_37 rfl rfl ?_
      refine t_1 qg_39 rfl (pb_goto (pc := 39) (by decide)) ?_
      obtain ⟨n, o, g1, g2, z, g3, g4, g5⟩ := ih y (x - x / y * y) (x - x / y * y) (by omega) (Or.inl hy)
      refine ⟨n, o, g1, g2, z, g3, g4, fun h1 h2 => ?_⟩
      have g6 := g5 h2 (hr.2 h1 h2)
      have hy0 : y.toInt ≠ 0 := fun z => hy (Int64.toInt_inj.mp (by rw [z]; rfl))
      refine ⟨g6.1, fun _ => ?_, fun z => absurd z hy⟩
      by_cases e : x - x / y * y = 0
      · rw [g6.2.2 e]
        exact Int.le_refl _
      · have := g6.2.1 e
        omega
set_option maxHeartbeats 2000000 in
/-- gcd, called with a second number that is not 0 -/
theorem gcd_run {d : Nat} {h : pH} {a b : Int64} (hb : b ≠ 0) : t_X d 192 0 (px_ar 0 [pvL a, pvL b]) [] h (fun o => o.2 = h ∧ ∃ z : Int64, o.1 = some (pvL z) ∧ z ≠ 0 ∧ (0 ≤ a.toInt → 0 ≤ b.toInt → 0 < z.toInt ∧ z.toInt ≤ b.toInt)) := by
  have key : ∀ x : Int64, (0 ≤ a.toInt → x = a) → t_X d 192 17 [(6, pvL b), (4, pvL x), (0, pvL a), (2, pvL b)] [] h (fun o => o.2 = h ∧ ∃ z : Int64, o.1 = some (pvL z) ∧ z ≠ 0 ∧ (0 ≤ a.toInt → 0 ≤ b.toInt → 0 < z.toInt ∧ z.toInt ≤ b.toInt)) := by
    intro x hx
    have hr := gcd_r (x := x) hb
    refine t_0 qg_17 rfl rfl ?_
    refine t_0 qg_19 rfl rfl ?_
    refine t_0 qg_20 rfl rfl ?_
    refine t_1 qg_21 rfl (pb_eq_f (pc := 21) (by decide) (fun z => hb ((lg_cmp_eq b 0).mp z))) ?_
    refine t_0 qg_24 rfl rfl ?_
    refine t_0 qg_26 rfl rfl ?_
    refine t_0 qg_28 rfl (if_neg hb) ?_
    refine t_2 qg_29 rfl rfl ?_
    refine t_0 qg_31 rfl rfl ?_
    refine t_2 qg_33 rfl rfl ?_
    refine t_0 qg_35 rfl rfl ?_
    refine t_2 qg_37 rfl rfl ?_
    refine t_1 qg_39 rfl (pb_goto (pc := 39) (by decide)) ?_
    obtain ⟨n, o, g1, g2, z, g3, g4, g5⟩ := gcd_loop (d := d) (h := h) (a := a) (b := b) _ b (x - x / b * b) (x - x / b * b) (Nat.le_refl _) (Or.inl hb)
    refine ⟨n, o, g1, g2, z, g3, g4, fun h1 h2 => ?_⟩
    have e := hx h1
    subst e
    have g6 := g5 h2 (hr.2 h1 h2)
    refine ⟨g6.1, ?_⟩
    by_cases e : x - x / b * b = 0
    · rw [g6.2.2 e]
      exact Int.le_refl _
    · have := g6.2.1 e
      omega
  show t_X d 192 0 [(0, pvL a), (2, pvL b)] [] h _
  by_cases ha : 0 ≤ lg_cmp a 0
  · have ha1 : ¬ (lg_cmp a 0 < 0) := fun z => by
      have z := Int32.lt_iff_toInt_lt.mp z
      have ha := Int32.le_iff_toInt_le.mp ha
      omega
    refine t_0 qg_0 rfl rfl ?_
    refine t_0 qg_1 rfl rfl ?_
    refine t_0 qg_2 rfl rfl ?_
    refine t_1 qg_3 rfl (pb_ge_t (pc := 3) (by decide) ha1) ?_
    refine t_0 qg_11 rfl rfl ?_
    refine t_2 qg_12 rfl rfl ?_
    refine t_0 qg_14 rfl rfl ?_
    refine t_2 qg_15 rfl rfl ?_
    exact key a (fun _ => rfl)
  · have ha1 : lg_cmp a 0 < 0 := Int32.lt_iff_toInt_lt.mpr (by
      have ha : ¬ (0 : Int32).toInt ≤ (lg_cmp a 0).toInt := fun z => ha (Int32.le_iff_toInt_le.mpr z)
      omega)
    refine t_0 qg_0 rfl rfl ?_
    refine t_0 qg_1 rfl rfl ?_
    refine t_0 qg_2 rfl rfl ?_
    refine t_1 qg_3 rfl (pb_ge_f (pc := 3) (by decide) ha1) ?_
    refine t_0 qg_6 rfl rfl ?_
    refine t_0 qg_7 rfl rfl ?_
    refine t_1 qg_8 rfl (pb_goto (pc := 8) (by decide)) ?_
    refine t_2 qg_12 rfl rfl ?_
    refine t_0 qg_14 rfl rfl ?_
    refine t_2 qg_15 rfl rfl ?_
    refine key (-a) (fun h1 => absurd ?_ ha)
    rw [lg_cmp_ge]
    exact Int64.le_iff_toInt_le.mpr h1

