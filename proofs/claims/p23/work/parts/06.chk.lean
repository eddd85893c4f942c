/-! the tables are right: what is looked up in them holds of the code and of the words -/
def xe_cw (μ : Nat) (q : xe_I) : Bool := match q.1 with
  | .getfield i => match xk_cl[q.2.2.1]? with
    | some r => Nat.ble (q.2.2.2.1 + 1) r.2.2 && decide (xt q.2.2.2.2 = some (.fieldLink (xm μ).1.cls i (r.2.1 q.2.2.2.1).1 (r.2.1 q.2.2.2.1).2.1 (r.2.1 q.2.2.2.1).2.2.1))
    | none => false
  | .putfield i => match xk_cl[q.2.2.1]? with
    | some r => Nat.ble (q.2.2.2.1 + 1) r.2.2 && decide (xt q.2.2.2.2 = some (.fieldLink (xm μ).1.cls i (r.2.1 q.2.2.2.1).1 (r.2.1 q.2.2.2.1).2.1 (r.2.1 q.2.2.2.1).2.2.1)) && (if (r.2.1 q.2.2.2.1).2.2.2 then (xm μ).2.2.2.2.2.2.2 == 2 && decide ((r.2.1 q.2.2.2.1).1 = (xm μ).1.cls) else true)
    | none => false
  | .new i => match xk_cl[q.2.2.1]? with
    | some r => decide (xt q.2.2.2.2 = some (.classLink (xm μ).1.cls i r.1))
    | none => false
  | .anewarray i => decide (xt q.2.2.2.2 = some (.classLink (xm μ).1.cls i "SlideNight$Slide"))
  | .ldc i => if q.2.2.1 == 1 then decide (xs_T[q.2.2.2.1]?.map (fun t => (t.1, t.2.1)) = some ((xm μ).1.cls, i)) else Nat.ble q.2.2.2.1 4294967295 && decide (xt q.2.2.2.2 = some (.constant (xm μ).1.cls i (xe_j q.2.2.2.1)))
  | .ldc_w i => if q.2.2.1 == 1 then false else Nat.ble q.2.2.2.1 4294967295 && decide (xt q.2.2.2.2 = some (.constant (xm μ).1.cls i (xe_j q.2.2.2.1)))
  | .ldc2_w i => Nat.ble q.2.2.2.1 18446744073709551615 && decide (xt q.2.2.2.2 = some (.constantLong (xm μ).1.cls i (xe_k q.2.2.2.1)))
  | .invokevirtual i => if q.2.2.1 == 0 then decide (xt q.2.2.2.2 = some (.methodLink (xm μ).1.cls i (xm q.2.2.2.1).1)) else if q.2.2.1 == 6 then decide (xt q.2.2.2.2 = some (.methodLink (xm μ).1.cls i ⟨"java/lang/String", "indexOf", "(I)I"⟩)) else true
  | .invokestatic i => if q.2.2.1 == 0 then decide (xt q.2.2.2.2 = some (.methodLink (xm μ).1.cls i (xm q.2.2.2.1).1))
    else if q.2.2.1 == 1 then decide (xe_N[q.2.2.2.2]? = some (.methodLinkNest (xm μ).1.cls i (xm q.2.2.2.1).1 "SlideNight"))
    else if q.2.2.1 == 2 then decide (xt q.2.2.2.2 = some (.methodLink (xm μ).1.cls i Lib.Math.max.name))
    else if q.2.2.1 == 3 then decide (xt q.2.2.2.2 = some (.methodLink (xm μ).1.cls i Lib.Math.min.name))
    else if q.2.2.1 == 4 then decide (xt q.2.2.2.2 = some (.methodLink (xm μ).1.cls i Lib.MathLoose.abs_long.x))
    else if q.2.2.1 == 5 then decide (xt q.2.2.2.2 = some (.methodLink (xm μ).1.cls i arraycopyName))
    else if q.2.2.1 == 7 then decide (xt q.2.2.2.2 = some (.methodLink (xm μ).1.cls i ⟨"java/lang/Integer", "bitCount", "(I)I"⟩))
    else if q.2.2.1 == 8 then decide (xt q.2.2.2.2 = some (.methodLink (xm μ).1.cls i ⟨"java/lang/Math", "abs", "(I)I"⟩)) else true
  | .invokespecial i => if q.2.2.1 == 0 then decide (xt q.2.2.2.2 = some (.methodLink (xm μ).1.cls i (xm q.2.2.2.1).1))
    else if q.2.2.1 == 1 then decide (xt q.2.2.2.2 = some (.methodLink (xm μ).1.cls i Lib.objectInit)) else true
  | _ => true
def xe_chk (μ : Nat) (q : xe_I) (pc : Nat) : Bool := (xe_len q.1 == 0 || q.2.1 == xe_len q.1) && decide (decode (xm μ).2.1 pc = .ok (q.1, q.2.1)) && xe_cw μ q
def xe_ckm (μ : Nat) : Bool := (List.range (32 * (xc μ).length)).all (fun pc => match xe_look (xc μ) pc with
  | some q => xe_chk μ q pc
  | none => true)
def xe_ckr (μ k : Nat) : Bool := (List.range 32).all (fun j => match xe_look (xc μ) (32 * k + j) with
  | some q => xe_chk μ q (32 * k + j)
  | none => true)
/-- the same, by the bytes -/
def xe_chf (μ : Nat) (q : xe_I) (pc : Nat) : Bool := (xe_len q.1 == 0 || q.2.1 == xe_len q.1) && xd_by (xm μ).2.1 pc q.1 q.2.1 && xe_cw μ q
theorem xe_chf_ok {μ pc : Nat} {q : xe_I} (h : xe_chf μ q pc = true) : xe_chk μ q pc = true := by
  unfold xe_chf at h
  unfold xe_chk
  rw [Bool.and_eq_true, Bool.and_eq_true] at h ⊢
  exact ⟨⟨h.1.1, decide_eq_true (xd_ok h.1.2)⟩, h.2⟩
def xe_cfm (μ : Nat) : Bool := (List.range (32 * (xc μ).length)).all (fun pc => match xe_look (xc μ) pc with
  | some q => xe_chf μ q pc
  | none => true)
theorem xf_m {μ : Nat} (h : xe_cfm μ = true) : xe_ckm μ = true := by
  refine List.all_eq_true.mpr (fun pc hp => ?_)
  have h1 := List.all_eq_true.mp h pc hp
  cases hq : xe_look (xc μ) pc with
  | none => rfl
  | some q =>
    rw [hq] at h1
    exact xe_chf_ok h1
def xe_cfr (μ k : Nat) : Bool := (List.range 32).all (fun j => match xe_look (xc μ) (32 * k + j) with
  | some q => xe_chf μ q (32 * k + j)
  | none => true)
theorem xf_r {μ k : Nat} (h : xe_cfr μ k = true) : xe_ckr μ k = true := by
  refine List.all_eq_true.mpr (fun j hj => ?_)
  have h1 := List.all_eq_true.mp h j hj
  cases hq : xe_look (xc μ) (32 * k + j) with
  | none => rfl
  | some q =>
    rw [hq] at h1
    exact xe_chf_ok h1
/-- the same, in one walk of the bytes -/
def xz_ch (μ : Nat) (q : xe_I) (pc : Nat) (bs : List UInt8) : Bool := (xe_len q.1 == 0 || q.2.1 == xe_len q.1) && (match xd_e q.1 with
  | some l => Nat.beq q.2.1 l.length && xd_p bs l
  | none => decide (decode (xm μ).2.1 pc = .ok (q.1, q.2.1))) && xe_cw μ q
def xz_go (μ : Nat) : List (Option xe_I) → Nat → List UInt8 → Bool
  | [], _, _ => true
  | none :: rs, pc, bs => xz_go μ rs (pc + 1) bs.tail
  | some q :: rs, pc, bs => xz_ch μ q pc bs && xz_go μ rs (pc + 1) bs.tail
def xz_all (μ : Nat) : List (List (Option xe_I)) → Nat → List UInt8 → Bool
  | [], _, _ => true
  | l :: ls, pc, bs => xz_go μ l pc bs && xz_all μ ls (pc + 32) (bs.drop 32)
theorem xz_go_ok {μ : Nat} : ∀ (rs : List (Option xe_I)) (pc : Nat), xz_go μ rs pc ((xm μ).2.1.data.toList.drop pc) = true → ∀ (j : Nat) (q : xe_I), rs[j]? = some (some q) → xe_chf μ q (pc + j) = true := by
  intro rs
  induction rs with
  | nil =>
    intro pc _ j q hq
    cases hq
  | cons r rs ih =>
    intro pc h j q hq
    have ht : ((xm μ).2.1.data.toList.drop pc).tail = (xm μ).2.1.data.toList.drop (pc + 1) := by rw [List.tail_drop]
    cases j with
    | zero =>
      have hq : r = some q := Option.some.inj hq
      subst hq
      unfold xz_go at h
      rw [Bool.and_eq_true] at h
      exact h.1
    | succ j =>
      have hq : rs[j]? = some (some q) := hq
      have h2 : xz_go μ rs (pc + 1) ((xm μ).2.1.data.toList.drop (pc + 1)) = true := by
        rw [← ht]
        cases r with
        | none => exact h
        | some q2 =>
          unfold xz_go at h
          rw [Bool.and_eq_true] at h
          exact h.2
      have := ih (pc + 1) h2 j q hq
      rw [show pc + 1 + j = pc + (j + 1) by omega] at this
      exact this
theorem xz_all_ok {μ : Nat} : ∀ (ls : List (List (Option xe_I))) (pc : Nat), xz_all μ ls pc ((xm μ).2.1.data.toList.drop pc) = true → ∀ (k j : Nat) (l : List (Option xe_I)) (q : xe_I), ls[k]? = some l → l[j]? = some (some q) → xe_chf μ q (pc + 32 * k + j) = true := by
  intro ls
  induction ls with
  | nil =>
    intro pc _ k j l q hl
    cases hl
  | cons l0 ls ih =>
    intro pc h k j l q hl hq
    unfold xz_all at h
    rw [Bool.and_eq_true, List.drop_drop] at h
    cases k with
    | zero =>
      have hl : l0 = l := Option.some.inj hl
      subst hl
      exact xz_go_ok _ _ h.1 j q hq
    | succ k =>
      have hl : ls[k]? = some l := hl
      have := ih (pc + 32) h.2 k j l q hl hq
      rw [show pc + 32 + 32 * k + j = pc + 32 * (k + 1) + j by omega] at this
      exact this
theorem xz_m {μ : Nat} (h : xz_all μ (xc μ) 0 (xm μ).2.1.data.toList = true) : xe_ckm μ = true := by
  refine List.all_eq_true.mpr (fun pc hp => ?_)
  cases hq : xe_look (xc μ) pc with
  | none => rfl
  | some q =>
    refine xe_chf_ok ?_
    unfold xe_look at hq
    split at hq
    · next l hl =>
      split at hq
      · next r hr =>
        subst hq
        have := xz_all_ok (xc μ) 0 h (pc / 32) (pc % 32) l q hl hr
        rw [show 0 + 32 * (pc / 32) + pc % 32 = pc by omega] at this
        exact this
      · cases hq
    · cases hq
theorem xq_0 : xe_ckm 0 = true := xz_m (by decide +kernel)
theorem xq_1 : xe_ckm 1 = true := xz_m (by decide +kernel)
theorem xq_2 : xe_ckm 2 = true := xz_m (by decide +kernel)
theorem xq_3 : xe_ckm 3 = true := xz_m (by decide +kernel)
theorem xq_4 : xe_ckm 4 = true := xz_m (by decide +kernel)
theorem xq_5 : xe_ckm 5 = true := xz_m (by decide +kernel)
theorem xq_6 : xe_ckm 6 = true := xz_m (by decide +kernel)
theorem xq_7 : xe_ckm 7 = true := xz_m (by decide +kernel)
theorem xq_8 : xe_ckm 8 = true := xz_m (by decide +kernel)
theorem xq_9 : xe_ckm 9 = true := xz_m (by decide +kernel)
theorem xq_10 : xe_ckm 10 = true := xz_m (by decide +kernel)
theorem xq_11 : xe_ckm 11 = true := xz_m (by decide +kernel)
theorem xq_12 : xe_ckm 12 = true := xz_m (by decide +kernel)
theorem xq_13 : xe_ckm 13 = true := xz_m (by decide +kernel)
theorem xq_14 : xe_ckm 14 = true := xz_m (by decide +kernel)
theorem xq_15 : xe_ckm 15 = true := xz_m (by decide +kernel)
theorem xq_16 : xe_ckm 16 = true := xz_m (by decide +kernel)
theorem xq_17 : xe_ckm 17 = true := xz_m (by decide +kernel)
theorem xq_18 : xe_ckm 18 = true := xz_m (by decide +kernel)
theorem xq_19 : xe_ckm 19 = true := xz_m (by decide +kernel)
theorem xq_20 : xe_ckm 20 = true := xz_m (by decide +kernel)
theorem xq_21 : xe_ckm 21 = true := xz_m (by decide +kernel)
theorem xq_22 : xe_ckm 22 = true := xz_m (by decide +kernel)
theorem xq_23 : xe_ckm 23 = true := xz_m (by decide +kernel)
theorem xq_24 : xe_ckm 24 = true := xz_m (by decide +kernel)
theorem xq_25 : xe_ckm 25 = true := xz_m (by decide +kernel)
theorem xq_26 : xe_ckm 26 = true := xz_m (by decide +kernel)
theorem xq_27 : xe_ckm 27 = true := xz_m (by decide +kernel)
theorem xq_28 : xe_ckm 28 = true := xz_m (by decide +kernel)
theorem xq_29 : xe_ckm 29 = true := xz_m (by decide +kernel)
theorem xq_30 : xe_ckm 30 = true := xz_m (by decide +kernel)
theorem xq_31 : xe_ckm 31 = true := xz_m (by decide +kernel)
theorem xq_32 : xe_ckm 32 = true := xz_m (by decide +kernel)
theorem xq_33 : xe_ckm 33 = true := xz_m (by decide +kernel)
theorem xq_34 : xe_ckm 34 = true := xz_m (by decide +kernel)
theorem xq_35 : xe_ckm 35 = true := xz_m (by decide +kernel)
theorem xq_36 : xe_ckm 36 = true := xz_m (by decide +kernel)
theorem xq_37 : xe_ckm 37 = true := xz_m (by decide +kernel)
theorem xq_38 : xe_ckm 38 = true := xz_m (by decide +kernel)
theorem xq_39 : xe_ckm 39 = true := xz_m (by decide +kernel)
theorem xq_40 : xe_ckm 40 = true := xz_m (by decide +kernel)
theorem xq_41 : xe_ckm 41 = true := xz_m (by decide +kernel)
theorem xq_42 : xe_ckm 42 = true := xz_m (by decide +kernel)
theorem xq_43 : xe_ckm 43 = true := xz_m (by decide +kernel)
theorem xq_44 : xe_ckm 44 = true := xz_m (by decide +kernel)
theorem xq_45 : xe_ckm 45 = true := xz_m (by decide +kernel)
theorem xq_46 : xe_ckm 46 = true := xz_m (by decide +kernel)
theorem xq_47 : xe_ckm 47 = true := xz_m (by decide +kernel)
theorem xq_48 : xe_ckm 48 = true := xz_m (by decide +kernel)
theorem xq_49 : xe_ckm 49 = true := xz_m (by decide +kernel)
theorem xq_50 : xe_ckm 50 = true := xz_m (by decide +kernel)
theorem xq_51 : xe_ckm 51 = true := xz_m (by decide +kernel)
theorem xq_52 : xe_ckm 52 = true := xz_m (by decide +kernel)
theorem xq_53 : xe_ckm 53 = true := xz_m (by decide +kernel)
theorem xq_54 : xe_ckm 54 = true := xz_m (by decide +kernel)
theorem xq_55 : xe_ckm 55 = true := xz_m (by decide +kernel)
theorem xq_56 : xe_ckm 56 = true := xz_m (by decide +kernel)
theorem xq_57 : xe_ckm 57 = true := xz_m (by decide +kernel)
theorem xq_58 : xe_ckm 58 = true := xz_m (by decide +kernel)
theorem xq_59 : xe_ckm 59 = true := xz_m (by decide +kernel)
theorem xq_60 : xe_ckm 60 = true := xz_m (by decide +kernel)
theorem xq_61 : xe_ckm 61 = true := xz_m (by decide +kernel)
theorem xq_62 : xe_ckm 62 = true := xz_m (by decide +kernel)
theorem xq_63 : xe_ckm 63 = true := xz_m (by decide +kernel)
theorem xq_64 : xe_ckm 64 = true := xz_m (by decide +kernel)
theorem xq_65 : xe_ckm 65 = true := xz_m (by decide +kernel)
theorem xq_66 : xe_ckm 66 = true := xz_m (by decide +kernel)
theorem xq_67 : xe_ckm 67 = true := xz_m (by decide +kernel)
theorem xq_68 : xe_ckm 68 = true := xz_m (by decide +kernel)
theorem xq_69 : xe_ckm 69 = true := xz_m (by decide +kernel)
theorem xq_70 : xe_ckm 70 = true := xz_m (by decide +kernel)
theorem xq_71 : xe_ckm 71 = true := xz_m (by decide +kernel)
theorem xq_72 : xe_ckm 72 = true := xz_m (by decide +kernel)
theorem xq_73 : xe_ckm 73 = true := xz_m (by decide +kernel)
theorem xq_74 : xe_ckm 74 = true := xz_m (by decide +kernel)
theorem xq_75 : xe_ckm 75 = true := xz_m (by decide +kernel)
theorem xq_76 : xe_ckm 76 = true := xz_m (by decide +kernel)
theorem xq_77 : xe_ckm 77 = true := xz_m (by decide +kernel)
theorem xq_78 : xe_ckm 78 = true := xz_m (by decide +kernel)
theorem xq_79 : xe_ckm 79 = true := xz_m (by decide +kernel)
theorem xq_80 : xe_ckm 80 = true := xz_m (by decide +kernel)
theorem xq_81 : xe_ckm 81 = true := xz_m (by decide +kernel)
theorem xq_82 : xe_ckm 82 = true := xz_m (by decide +kernel)
theorem xq_83 : xe_ckm 83 = true := xz_m (by decide +kernel)
theorem xq_84 : xe_ckm 84 = true := xz_m (by decide +kernel)
theorem xq_85 : xe_ckm 85 = true := xz_m (by decide +kernel)
theorem xq_86 : xe_ckm 86 = true := xz_m (by decide +kernel)
theorem xq_87 : xe_ckm 87 = true := xz_m (by decide +kernel)
theorem xq_88 : xe_ckm 88 = true := xz_m (by decide +kernel)
theorem xq_89 : xe_ckm 89 = true := xz_m (by decide +kernel)
theorem xq_90 : xe_ckm 90 = true := xz_m (by decide +kernel)
theorem xq_91 : xe_ckm 91 = true := xz_m (by decide +kernel)
theorem xq_92 : xe_ckm 92 = true := xz_m (by decide +kernel)
theorem xq_93 : xe_ckm 93 = true := xz_m (by decide +kernel)
theorem xq_94 : xe_ckm 94 = true := xz_m (by decide +kernel)
theorem xq_95 : xe_ckm 95 = true := xz_m (by decide +kernel)
theorem xq_96 : xe_ckm 96 = true := xz_m (by decide +kernel)
theorem xq_97 : xe_ckm 97 = true := xz_m (by decide +kernel)
theorem xq_98 : xe_ckm 98 = true := xz_m (by decide +kernel)
theorem xq_99 : xe_ckm 99 = true := xz_m (by decide +kernel)
theorem xq_100 : xe_ckm 100 = true := xz_m (by decide +kernel)
theorem xq_101 : xe_ckm 101 = true := xz_m (by decide +kernel)
theorem xq_102 : xe_ckm 102 = true := xz_m (by decide +kernel)
theorem xq_103 : xe_ckm 103 = true := xz_m (by decide +kernel)
theorem xq_104 : xe_ckm 104 = true := xz_m (by decide +kernel)
theorem xq_105 : xe_ckm 105 = true := xz_m (by decide +kernel)
theorem xq_106 : xe_ckm 106 = true := xz_m (by decide +kernel)
theorem xq_107 : xe_ckm 107 = true := xz_m (by decide +kernel)
theorem xq_108 : xe_ckm 108 = true := xz_m (by decide +kernel)
theorem xq_109 : xe_ckm 109 = true := xz_m (by decide +kernel)
theorem xq_110 : xe_ckm 110 = true := xz_m (by decide +kernel)
theorem xq_111 : xe_ckm 111 = true := xz_m (by decide +kernel)
theorem xq_112 : xe_ckm 112 = true := xz_m (by decide +kernel)
theorem xq_113 : xe_ckm 113 = true := xz_m (by decide +kernel)
theorem xq_114 : xe_ckm 114 = true := xz_m (by decide +kernel)
theorem xq_115 : xe_ckm 115 = true := xz_m (by decide +kernel)
theorem xq_116 : xe_ckm 116 = true := xz_m (by decide +kernel)
theorem xq_117 : xe_ckm 117 = true := xz_m (by decide +kernel)
theorem xq_118 : xe_ckm 118 = true := xz_m (by decide +kernel)
theorem xq_119 : xe_ckm 119 = true := xz_m (by decide +kernel)
theorem xq_120 : xe_ckm 120 = true := xz_m (by decide +kernel)
theorem xq_121 : xe_ckm 121 = true := xz_m (by decide +kernel)
theorem xq_122 : xe_ckm 122 = true := xz_m (by decide +kernel)
theorem xq_123 : xe_ckm 123 = true := xz_m (by decide +kernel)
theorem xq_124 : xe_ckm 124 = true := xz_m (by decide +kernel)
theorem xq_125 : xe_ckm 125 = true := xz_m (by decide +kernel)
theorem xq_126 : xe_ckm 126 = true := xz_m (by decide +kernel)
theorem xq_127 : xe_ckm 127 = true := xz_m (by decide +kernel)
theorem xq_128 : xe_ckm 128 = true := xz_m (by decide +kernel)
theorem xq_129 : xe_ckm 129 = true := xz_m (by decide +kernel)
theorem xq_130 : xe_ckm 130 = true := xz_m (by decide +kernel)
theorem xq_131 : xe_ckm 131 = true := xz_m (by decide +kernel)
theorem xq_132 : xe_ckm 132 = true := xz_m (by decide +kernel)
theorem xq_133 : xe_ckm 133 = true := xz_m (by decide +kernel)
theorem xq_134 : xe_ckm 134 = true := xz_m (by decide +kernel)
theorem xq_135 : xe_ckm 135 = true := xz_m (by decide +kernel)
theorem xq_136 : xe_ckm 136 = true := xz_m (by decide +kernel)
theorem xq_137 : xe_ckm 137 = true := xz_m (by decide +kernel)
theorem xq_138 : xe_ckm 138 = true := xz_m (by decide +kernel)
theorem xq_139 : xe_ckm 139 = true := xz_m (by decide +kernel)
theorem xq_140 : xe_ckm 140 = true := xz_m (by decide +kernel)
theorem xq_141 : xe_ckm 141 = true := xz_m (by decide +kernel)
theorem xq_142 : xe_ckm 142 = true := xz_m (by decide +kernel)
theorem xq_143 : xe_ckm 143 = true := xz_m (by decide +kernel)
theorem xq_144 : xe_ckm 144 = true := xz_m (by decide +kernel)
theorem xq_145 : xe_ckm 145 = true := xz_m (by decide +kernel)
theorem xq_146 : xe_ckm 146 = true := xz_m (by decide +kernel)
theorem xq_147 : xe_ckm 147 = true := xz_m (by decide +kernel)
theorem xq_148 : xe_ckm 148 = true := xz_m (by decide +kernel)
theorem xq_149 : xe_ckm 149 = true := xz_m (by decide +kernel)
theorem xq_150 : xe_ckm 150 = true := xz_m (by decide +kernel)
theorem xq_151 : xe_ckm 151 = true := xz_m (by decide +kernel)
theorem xq_152 : xe_ckm 152 = true := xz_m (by decide +kernel)
theorem xq_153 : xe_ckm 153 = true := xz_m (by decide +kernel)
theorem xq_154 : xe_ckm 154 = true := xz_m (by decide +kernel)
theorem xq_155 : xe_ckm 155 = true := xz_m (by decide +kernel)
theorem xq_156 : xe_ckm 156 = true := xz_m (by decide +kernel)
theorem xq_157 : xe_ckm 157 = true := xz_m (by decide +kernel)
theorem xq_158 : xe_ckm 158 = true := xz_m (by decide +kernel)
theorem xq_159 : xe_ckm 159 = true := xz_m (by decide +kernel)
theorem xq_160 : xe_ckm 160 = true := xz_m (by decide +kernel)
theorem xq_161 : xe_ckm 161 = true := xz_m (by decide +kernel)
theorem xq_162 : xe_ckm 162 = true := xz_m (by decide +kernel)
theorem xq_163 : xe_ckm 163 = true := xz_m (by decide +kernel)
theorem xq_164 : xe_ckm 164 = true := xz_m (by decide +kernel)
theorem xq_165 : xe_ckm 165 = true := xz_m (by decide +kernel)
theorem xq_166 : xe_ckm 166 = true := xz_m (by decide +kernel)
theorem xq_167 : xe_ckm 167 = true := xz_m (by decide +kernel)
theorem xq_168 : xe_ckm 168 = true := xz_m (by decide +kernel)
theorem xq_169 : xe_ckm 169 = true := xz_m (by decide +kernel)
theorem xq_170 : xe_ckm 170 = true := xz_m (by decide +kernel)
theorem xq_171 : xe_ckm 171 = true := xz_m (by decide +kernel)
theorem xq_172 : xe_ckm 172 = true := xz_m (by decide +kernel)
theorem xq_173 : xe_ckm 173 = true := xz_m (by decide +kernel)
theorem xq_174 : xe_ckm 174 = true := xz_m (by decide +kernel)
theorem xq_175 : xe_ckm 175 = true := xz_m (by decide +kernel)
theorem xq_176 : xe_ckm 176 = true := xz_m (by decide +kernel)
theorem xq_177 : xe_ckm 177 = true := xz_m (by decide +kernel)
theorem xq_178 : xe_ckm 178 = true := xz_m (by decide +kernel)
theorem xq_179 : xe_ckm 179 = true := xz_m (by decide +kernel)
theorem xq_180 : xe_ckm 180 = true := xz_m (by decide +kernel)
theorem xq_181 : xe_ckm 181 = true := xz_m (by decide +kernel)
theorem xq_182 : xe_ckm 182 = true := xz_m (by decide +kernel)
theorem xq_183 : xe_ckm 183 = true := xz_m (by decide +kernel)
theorem xq_184 : xe_ckm 184 = true := xz_m (by decide +kernel)
theorem xq_185 : xe_ckm 185 = true := xz_m (by decide +kernel)
theorem xq_186 : xe_ckm 186 = true := xz_m (by decide +kernel)
theorem xq_187 : xe_ckm 187 = true := xz_m (by decide +kernel)
theorem xq_188 : xe_ckm 188 = true := xz_m (by decide +kernel)
theorem xq_189 : xe_ckm 189 = true := xz_m (by decide +kernel)
theorem xq_190 : xe_ckm 190 = true := xz_m (by decide +kernel)
theorem xq_191 : xe_ckm 191 = true := xz_m (by decide +kernel)
theorem xq_192 : xe_ckm 192 = true := xz_m (by decide +kernel)
theorem xq_193 : xe_ckm 193 = true := xz_m (by decide +kernel)
theorem xq_194 : xe_ckm 194 = true := xz_m (by decide +kernel)
theorem xq_195 : xe_ckm 195 = true := xz_m (by decide +kernel)
theorem xq_196 : xe_ckm 196 = true := xz_m (by decide +kernel)
theorem xq_197 : xe_ckm 197 = true := xz_m (by decide +kernel)
theorem xq_198 : xe_ckm 198 = true := xz_m (by decide +kernel)
theorem xq_199 : xe_ckm 199 = true := xz_m (by decide +kernel)
theorem xq_200 : xe_ckm 200 = true := xz_m (by decide +kernel)
theorem xq_201 : xe_ckm 201 = true := xz_m (by decide +kernel)
theorem xq_202 : xe_ckm 202 = true := xz_m (by decide +kernel)
theorem xq_203 : xe_ckm 203 = true := xz_m (by decide +kernel)
theorem xq_204 : xe_ckm 204 = true := xz_m (by decide +kernel)
theorem xq_205 : xe_ckm 205 = true := xz_m (by decide +kernel)
theorem xq_206 : xe_ckm 206 = true := xz_m (by decide +kernel)
theorem xq_207 : xe_ckm 207 = true := xz_m (by decide +kernel)
theorem xq_208 : xe_ckm 208 = true := xz_m (by decide +kernel)
theorem xq_209 : xe_ckm 209 = true := xz_m (by decide +kernel)
theorem xq_210 : xe_ckm 210 = true := xz_m (by decide +kernel)
theorem xq_211 : xe_ckm 211 = true := xz_m (by decide +kernel)
theorem xq_212 : xe_ckm 212 = true := xz_m (by decide +kernel)
theorem xq_213 : xe_ckm 213 = true := xz_m (by decide +kernel)
theorem xq_214 : xe_ckm 214 = true := xz_m (by decide +kernel)
theorem xq_215 : xe_ckm 215 = true := xz_m (by decide +kernel)
theorem xq_216 : xe_ckm 216 = true := xz_m (by decide +kernel)
theorem xq_217 : xe_ckm 217 = true := xz_m (by decide +kernel)
theorem xq_218 : xe_ckm 218 = true := xz_m (by decide +kernel)
theorem xq_219 : xe_ckm 219 = true := xz_m (by decide +kernel)
theorem xq_220 : xe_ckm 220 = true := xz_m (by decide +kernel)
theorem xq_221 : xe_ckm 221 = true := xz_m (by decide +kernel)
theorem xq_222 : xe_ckm 222 = true := xz_m (by decide +kernel)
theorem xq_223 : xe_ckm 223 = true := xz_m (by decide +kernel)
theorem xq_224 : xe_ckm 224 = true := xz_m (by decide +kernel)
theorem xq_225 : xe_ckm 225 = true := xz_m (by decide +kernel)
theorem xq_226 : xe_ckm 226 = true := xz_m (by decide +kernel)
theorem xq_227 : xe_ckm 227 = true := xz_m (by decide +kernel)
theorem xq_228 : xe_ckm 228 = true := xz_m (by decide +kernel)
theorem xq_229 : xe_ckm 229 = true := xz_m (by decide +kernel)
theorem xq_230 : xe_ckm 230 = true := xz_m (by decide +kernel)
theorem xq_231 : xe_ckm 231 = true := xz_m (by decide +kernel)
theorem xq_232 : xe_ckm 232 = true := xz_m (by decide +kernel)
theorem xq_233 : xe_ckm 233 = true := xz_m (by decide +kernel)
theorem xq_234 : xe_ckm 234 = true := xz_m (by decide +kernel)
theorem xq_235 : xe_ckm 235 = true := xz_m (by decide +kernel)
theorem xq_236 : xe_ckm 236 = true := xz_m (by decide +kernel)
theorem xq_237 : xe_ckm 237 = true := xz_m (by decide +kernel)
theorem xq_238 : xe_ckm 238 = true := xz_m (by decide +kernel)
theorem xq_239 : xe_ckm 239 = true := xz_m (by decide +kernel)
theorem xq_240 : xe_ckm 240 = true := xz_m (by decide +kernel)
theorem xq_241 : xe_ckm 241 = true := xz_m (by decide +kernel)
theorem xq_242 : xe_ckm 242 = true := xz_m (by decide +kernel)
theorem xq_243 : xe_ckm 243 = true := xz_m (by decide +kernel)
theorem xq_244 : xe_ckm 244 = true := xz_m (by decide +kernel)
theorem xq_245 : xe_ckm 245 = true := xz_m (by decide +kernel)
theorem xq_246 : xe_ckm 246 = true := xz_m (by decide +kernel)
theorem xq_247 : xe_ckm 247 = true := xz_m (by decide +kernel)
theorem xq_248 : xe_ckm 248 = true := xz_m (by decide +kernel)
theorem xq_249 : xe_ckm 249 = true := xz_m (by decide +kernel)
theorem xq_250 : xe_ckm 250 = true := xz_m (by decide +kernel)
theorem xq_251 : xe_ckm 251 = true := xz_m (by decide +kernel)
theorem xq_252 : xe_ckm 252 = true := xz_m (by decide +kernel)
theorem xq_253 : xe_ckm 253 = true := xz_m (by decide +kernel)
theorem xq_254 : xe_ckm 254 = true := xz_m (by decide +kernel)
theorem xq_255 : xe_ckm 255 = true := xz_m (by decide +kernel)
theorem xq_256 : xe_ckm 256 = true := xz_m (by decide +kernel)
theorem xq_257 : xe_ckm 257 = true := xz_m (by decide +kernel)
theorem xq_258 : xe_ckm 258 = true := xz_m (by decide +kernel)
theorem xq_259 : xe_ckm 259 = true := xz_m (by decide +kernel)
theorem xq_260 : xe_ckm 260 = true := xz_m (by decide +kernel)
theorem xq_261 : xe_ckm 261 = true := xz_m (by decide +kernel)
theorem xq_262 : xe_ckm 262 = true := xz_m (by decide +kernel)
theorem xq_263 : xe_ckm 263 = true := xz_m (by decide +kernel)
theorem xq_264 : xe_ckm 264 = true := xz_m (by decide +kernel)
theorem xq_265 : xe_ckm 265 = true := xz_m (by decide +kernel)
theorem xq_266 : xe_ckm 266 = true := xz_m (by decide +kernel)
theorem xq_267 : xe_ckm 267 = true := xz_m (by decide +kernel)
theorem xq_268 : xe_ckm 268 = true := xz_m (by decide +kernel)
theorem xq_269 : xe_ckm 269 = true := xz_m (by decide +kernel)
theorem xq_270 : xe_ckm 270 = true := xz_m (by decide +kernel)
theorem xq_271 : xe_ckm 271 = true := xz_m (by decide +kernel)
theorem xq_272 : xe_ckm 272 = true := xz_m (by decide +kernel)
theorem xq_273 : xe_ckm 273 = true := xz_m (by decide +kernel)
theorem xq_274 : xe_ckm 274 = true := xz_m (by decide +kernel)
theorem xq_275 : xe_ckm 275 = true := xz_m (by decide +kernel)
theorem xq_276 : xe_ckm 276 = true := xz_m (by decide +kernel)
theorem xq_all : ∀ μ : Nat, μ < 277 → xe_ckm μ = true := by
  intro μ h
  match μ, h with
  | 0, _ => exact xq_0
  | 1, _ => exact xq_1
  | 2, _ => exact xq_2
  | 3, _ => exact xq_3
  | 4, _ => exact xq_4
  | 5, _ => exact xq_5
  | 6, _ => exact xq_6
  | 7, _ => exact xq_7
  | 8, _ => exact xq_8
  | 9, _ => exact xq_9
  | 10, _ => exact xq_10
  | 11, _ => exact xq_11
  | 12, _ => exact xq_12
  | 13, _ => exact xq_13
  | 14, _ => exact xq_14
  | 15, _ => exact xq_15
  | 16, _ => exact xq_16
  | 17, _ => exact xq_17
  | 18, _ => exact xq_18
  | 19, _ => exact xq_19
  | 20, _ => exact xq_20
  | 21, _ => exact xq_21
  | 22, _ => exact xq_22
  | 23, _ => exact xq_23
  | 24, _ => exact xq_24
  | 25, _ => exact xq_25
  | 26, _ => exact xq_26
  | 27, _ => exact xq_27
  | 28, _ => exact xq_28
  | 29, _ => exact xq_29
  | 30, _ => exact xq_30
  | 31, _ => exact xq_31
  | 32, _ => exact xq_32
  | 33, _ => exact xq_33
  | 34, _ => exact xq_34
  | 35, _ => exact xq_35
  | 36, _ => exact xq_36
  | 37, _ => exact xq_37
  | 38, _ => exact xq_38
  | 39, _ => exact xq_39
  | 40, _ => exact xq_40
  | 41, _ => exact xq_41
  | 42, _ => exact xq_42
  | 43, _ => exact xq_43
  | 44, _ => exact xq_44
  | 45, _ => exact xq_45
  | 46, _ => exact xq_46
  | 47, _ => exact xq_47
  | 48, _ => exact xq_48
  | 49, _ => exact xq_49
  | 50, _ => exact xq_50
  | 51, _ => exact xq_51
  | 52, _ => exact xq_52
  | 53, _ => exact xq_53
  | 54, _ => exact xq_54
  | 55, _ => exact xq_55
  | 56, _ => exact xq_56
  | 57, _ => exact xq_57
  | 58, _ => exact xq_58
  | 59, _ => exact xq_59
  | 60, _ => exact xq_60
  | 61, _ => exact xq_61
  | 62, _ => exact xq_62
  | 63, _ => exact xq_63
  | 64, _ => exact xq_64
  | 65, _ => exact xq_65
  | 66, _ => exact xq_66
  | 67, _ => exact xq_67
  | 68, _ => exact xq_68
  | 69, _ => exact xq_69
  | 70, _ => exact xq_70
  | 71, _ => exact xq_71
  | 72, _ => exact xq_72
  | 73, _ => exact xq_73
  | 74, _ => exact xq_74
  | 75, _ => exact xq_75
  | 76, _ => exact xq_76
  | 77, _ => exact xq_77
  | 78, _ => exact xq_78
  | 79, _ => exact xq_79
  | 80, _ => exact xq_80
  | 81, _ => exact xq_81
  | 82, _ => exact xq_82
  | 83, _ => exact xq_83
  | 84, _ => exact xq_84
  | 85, _ => exact xq_85
  | 86, _ => exact xq_86
  | 87, _ => exact xq_87
  | 88, _ => exact xq_88
  | 89, _ => exact xq_89
  | 90, _ => exact xq_90
  | 91, _ => exact xq_91
  | 92, _ => exact xq_92
  | 93, _ => exact xq_93
  | 94, _ => exact xq_94
  | 95, _ => exact xq_95
  | 96, _ => exact xq_96
  | 97, _ => exact xq_97
  | 98, _ => exact xq_98
  | 99, _ => exact xq_99
  | 100, _ => exact xq_100
  | 101, _ => exact xq_101
  | 102, _ => exact xq_102
  | 103, _ => exact xq_103
  | 104, _ => exact xq_104
  | 105, _ => exact xq_105
  | 106, _ => exact xq_106
  | 107, _ => exact xq_107
  | 108, _ => exact xq_108
  | 109, _ => exact xq_109
  | 110, _ => exact xq_110
  | 111, _ => exact xq_111
  | 112, _ => exact xq_112
  | 113, _ => exact xq_113
  | 114, _ => exact xq_114
  | 115, _ => exact xq_115
  | 116, _ => exact xq_116
  | 117, _ => exact xq_117
  | 118, _ => exact xq_118
  | 119, _ => exact xq_119
  | 120, _ => exact xq_120
  | 121, _ => exact xq_121
  | 122, _ => exact xq_122
  | 123, _ => exact xq_123
  | 124, _ => exact xq_124
  | 125, _ => exact xq_125
  | 126, _ => exact xq_126
  | 127, _ => exact xq_127
  | 128, _ => exact xq_128
  | 129, _ => exact xq_129
  | 130, _ => exact xq_130
  | 131, _ => exact xq_131
  | 132, _ => exact xq_132
  | 133, _ => exact xq_133
  | 134, _ => exact xq_134
  | 135, _ => exact xq_135
  | 136, _ => exact xq_136
  | 137, _ => exact xq_137
  | 138, _ => exact xq_138
  | 139, _ => exact xq_139
  | 140, _ => exact xq_140
  | 141, _ => exact xq_141
  | 142, _ => exact xq_142
  | 143, _ => exact xq_143
  | 144, _ => exact xq_144
  | 145, _ => exact xq_145
  | 146, _ => exact xq_146
  | 147, _ => exact xq_147
  | 148, _ => exact xq_148
  | 149, _ => exact xq_149
  | 150, _ => exact xq_150
  | 151, _ => exact xq_151
  | 152, _ => exact xq_152
  | 153, _ => exact xq_153
  | 154, _ => exact xq_154
  | 155, _ => exact xq_155
  | 156, _ => exact xq_156
  | 157, _ => exact xq_157
  | 158, _ => exact xq_158
  | 159, _ => exact xq_159
  | 160, _ => exact xq_160
  | 161, _ => exact xq_161
  | 162, _ => exact xq_162
  | 163, _ => exact xq_163
  | 164, _ => exact xq_164
  | 165, _ => exact xq_165
  | 166, _ => exact xq_166
  | 167, _ => exact xq_167
  | 168, _ => exact xq_168
  | 169, _ => exact xq_169
  | 170, _ => exact xq_170
  | 171, _ => exact xq_171
  | 172, _ => exact xq_172
  | 173, _ => exact xq_173
  | 174, _ => exact xq_174
  | 175, _ => exact xq_175
  | 176, _ => exact xq_176
  | 177, _ => exact xq_177
  | 178, _ => exact xq_178
  | 179, _ => exact xq_179
  | 180, _ => exact xq_180
  | 181, _ => exact xq_181
  | 182, _ => exact xq_182
  | 183, _ => exact xq_183
  | 184, _ => exact xq_184
  | 185, _ => exact xq_185
  | 186, _ => exact xq_186
  | 187, _ => exact xq_187
  | 188, _ => exact xq_188
  | 189, _ => exact xq_189
  | 190, _ => exact xq_190
  | 191, _ => exact xq_191
  | 192, _ => exact xq_192
  | 193, _ => exact xq_193
  | 194, _ => exact xq_194
  | 195, _ => exact xq_195
  | 196, _ => exact xq_196
  | 197, _ => exact xq_197
  | 198, _ => exact xq_198
  | 199, _ => exact xq_199
  | 200, _ => exact xq_200
  | 201, _ => exact xq_201
  | 202, _ => exact xq_202
  | 203, _ => exact xq_203
  | 204, _ => exact xq_204
  | 205, _ => exact xq_205
  | 206, _ => exact xq_206
  | 207, _ => exact xq_207
  | 208, _ => exact xq_208
  | 209, _ => exact xq_209
  | 210, _ => exact xq_210
  | 211, _ => exact xq_211
  | 212, _ => exact xq_212
  | 213, _ => exact xq_213
  | 214, _ => exact xq_214
  | 215, _ => exact xq_215
  | 216, _ => exact xq_216
  | 217, _ => exact xq_217
  | 218, _ => exact xq_218
  | 219, _ => exact xq_219
  | 220, _ => exact xq_220
  | 221, _ => exact xq_221
  | 222, _ => exact xq_222
  | 223, _ => exact xq_223
  | 224, _ => exact xq_224
  | 225, _ => exact xq_225
  | 226, _ => exact xq_226
  | 227, _ => exact xq_227
  | 228, _ => exact xq_228
  | 229, _ => exact xq_229
  | 230, _ => exact xq_230
  | 231, _ => exact xq_231
  | 232, _ => exact xq_232
  | 233, _ => exact xq_233
  | 234, _ => exact xq_234
  | 235, _ => exact xq_235
  | 236, _ => exact xq_236
  | 237, _ => exact xq_237
  | 238, _ => exact xq_238
  | 239, _ => exact xq_239
  | 240, _ => exact xq_240
  | 241, _ => exact xq_241
  | 242, _ => exact xq_242
  | 243, _ => exact xq_243
  | 244, _ => exact xq_244
  | 245, _ => exact xq_245
  | 246, _ => exact xq_246
  | 247, _ => exact xq_247
  | 248, _ => exact xq_248
  | 249, _ => exact xq_249
  | 250, _ => exact xq_250
  | 251, _ => exact xq_251
  | 252, _ => exact xq_252
  | 253, _ => exact xq_253
  | 254, _ => exact xq_254
  | 255, _ => exact xq_255
  | 256, _ => exact xq_256
  | 257, _ => exact xq_257
  | 258, _ => exact xq_258
  | 259, _ => exact xq_259
  | 260, _ => exact xq_260
  | 261, _ => exact xq_261
  | 262, _ => exact xq_262
  | 263, _ => exact xq_263
  | 264, _ => exact xq_264
  | 265, _ => exact xq_265
  | 266, _ => exact xq_266
  | 267, _ => exact xq_267
  | 268, _ => exact xq_268
  | 269, _ => exact xq_269
  | 270, _ => exact xq_270
  | 271, _ => exact xq_271
  | 272, _ => exact xq_272
  | 273, _ => exact xq_273
  | 274, _ => exact xq_274
  | 275, _ => exact xq_275
  | 276, _ => exact xq_276
  | n + 277, h => exact absurd h (by omega)
theorem xc_out {μ : Nat} (h : 277 ≤ μ) : xc μ = [] := by
  have hl : xc_A.length = 277 := by decide +kernel
  unfold xc
  rw [List.getD_eq_getElem?_getD, List.getElem?_eq_none (by omega)]
  rfl
theorem xe_ck {μ pc : Nat} {q : xe_I} (h : xe_look (xc μ) pc = some q) : xe_chk μ q pc = true := by
  rcases Nat.lt_or_ge μ 277 with hm | hm
  · have h1 := List.all_eq_true.mp (xq_all μ hm)
    rcases Nat.lt_or_ge pc (32 * (xc μ).length) with hp | hp
    · have h2 := h1 pc (List.mem_range.mpr hp)
      rw [h] at h2
      exact h2
    · have h3 : (xc μ)[pc / 32]? = none := List.getElem?_eq_none (by omega)
      unfold xe_look at h
      rw [h3] at h
      cases h
  · rw [xc_out hm] at h
    cases h
/-- methods -/
def xm_ck (μ : Nat) : Bool := decide (xt (xm_P.getD μ (0, 0, 0, 0)).2.1 = some (.initialized (xm μ).1.cls))
  && (if (xm μ).2.2.2.2.2.2.2 == 0 then decide (xt (xm_P.getD μ (0, 0, 0, 0)).2.2.1 = some (.static (xm μ).1)) else decide (xt (xm_P.getD μ (0, 0, 0, 0)).2.2.1 = some (.instanceMethod (xm μ).1)))
  && (if (xm μ).2.2.2.2.2.2.2 == 1 then decide (xt (xm_P.getD μ (0, 0, 0, 0)).2.2.2 = some (.selects (xm μ).1.cls (xm μ).1 (xm μ).1)) else true)
  && (if (xm μ).2.2.2.2.2.2.2 == 2 then decide ((xm μ).1.name = "<init>") && decide ((xm μ).2.2.2.1 = none) else true)
  && plainName (xm μ).1.cls && decide ((xm μ).1.cls ≠ "java/lang/invoke/MethodHandle") && decide ((xm μ).1.cls ≠ "java/lang/invoke/VarHandle")
  && decide ((parseMethodDescriptor (xm μ).1.desc).map (fun d => d.parameters.length) = some (xm μ).2.2.2.2.2.1) && Nat.ble (xm μ).2.2.1 45
  && (match xk_cl[(xm μ).2.2.2.2.2.2.1]? with
    | some c => decide (c.1 = (xm μ).1.cls)
    | none => false)
theorem xr_0 : xm_ck 0 = true := by decide +kernel
theorem xr_1 : xm_ck 1 = true := by decide +kernel
theorem xr_2 : xm_ck 2 = true := by decide +kernel
theorem xr_3 : xm_ck 3 = true := by decide +kernel
theorem xr_4 : xm_ck 4 = true := by decide +kernel
theorem xr_5 : xm_ck 5 = true := by decide +kernel
theorem xr_6 : xm_ck 6 = true := by decide +kernel
theorem xr_7 : xm_ck 7 = true := by decide +kernel
theorem xr_8 : xm_ck 8 = true := by decide +kernel
theorem xr_9 : xm_ck 9 = true := by decide +kernel
theorem xr_10 : xm_ck 10 = true := by decide +kernel
theorem xr_11 : xm_ck 11 = true := by decide +kernel
theorem xr_12 : xm_ck 12 = true := by decide +kernel
theorem xr_13 : xm_ck 13 = true := by decide +kernel
theorem xr_14 : xm_ck 14 = true := by decide +kernel
theorem xr_15 : xm_ck 15 = true := by decide +kernel
theorem xr_16 : xm_ck 16 = true := by decide +kernel
theorem xr_17 : xm_ck 17 = true := by decide +kernel
theorem xr_18 : xm_ck 18 = true := by decide +kernel
theorem xr_19 : xm_ck 19 = true := by decide +kernel
theorem xr_20 : xm_ck 20 = true := by decide +kernel
theorem xr_21 : xm_ck 21 = true := by decide +kernel
theorem xr_22 : xm_ck 22 = true := by decide +kernel
theorem xr_23 : xm_ck 23 = true := by decide +kernel
theorem xr_24 : xm_ck 24 = true := by decide +kernel
theorem xr_25 : xm_ck 25 = true := by decide +kernel
theorem xr_26 : xm_ck 26 = true := by decide +kernel
theorem xr_27 : xm_ck 27 = true := by decide +kernel
theorem xr_28 : xm_ck 28 = true := by decide +kernel
theorem xr_29 : xm_ck 29 = true := by decide +kernel
theorem xr_30 : xm_ck 30 = true := by decide +kernel
theorem xr_31 : xm_ck 31 = true := by decide +kernel
theorem xr_32 : xm_ck 32 = true := by decide +kernel
theorem xr_33 : xm_ck 33 = true := by decide +kernel
theorem xr_34 : xm_ck 34 = true := by decide +kernel
theorem xr_35 : xm_ck 35 = true := by decide +kernel
theorem xr_36 : xm_ck 36 = true := by decide +kernel
theorem xr_37 : xm_ck 37 = true := by decide +kernel
theorem xr_38 : xm_ck 38 = true := by decide +kernel
theorem xr_39 : xm_ck 39 = true := by decide +kernel
theorem xr_40 : xm_ck 40 = true := by decide +kernel
theorem xr_41 : xm_ck 41 = true := by decide +kernel
theorem xr_42 : xm_ck 42 = true := by decide +kernel
theorem xr_43 : xm_ck 43 = true := by decide +kernel
theorem xr_44 : xm_ck 44 = true := by decide +kernel
theorem xr_45 : xm_ck 45 = true := by decide +kernel
theorem xr_46 : xm_ck 46 = true := by decide +kernel
theorem xr_47 : xm_ck 47 = true := by decide +kernel
theorem xr_48 : xm_ck 48 = true := by decide +kernel
theorem xr_49 : xm_ck 49 = true := by decide +kernel
theorem xr_50 : xm_ck 50 = true := by decide +kernel
theorem xr_51 : xm_ck 51 = true := by decide +kernel
theorem xr_52 : xm_ck 52 = true := by decide +kernel
theorem xr_53 : xm_ck 53 = true := by decide +kernel
theorem xr_54 : xm_ck 54 = true := by decide +kernel
theorem xr_55 : xm_ck 55 = true := by decide +kernel
theorem xr_56 : xm_ck 56 = true := by decide +kernel
theorem xr_57 : xm_ck 57 = true := by decide +kernel
theorem xr_58 : xm_ck 58 = true := by decide +kernel
theorem xr_59 : xm_ck 59 = true := by decide +kernel
theorem xr_60 : xm_ck 60 = true := by decide +kernel
theorem xr_61 : xm_ck 61 = true := by decide +kernel
theorem xr_62 : xm_ck 62 = true := by decide +kernel
theorem xr_63 : xm_ck 63 = true := by decide +kernel
theorem xr_64 : xm_ck 64 = true := by decide +kernel
theorem xr_65 : xm_ck 65 = true := by decide +kernel
theorem xr_66 : xm_ck 66 = true := by decide +kernel
theorem xr_67 : xm_ck 67 = true := by decide +kernel
theorem xr_68 : xm_ck 68 = true := by decide +kernel
theorem xr_69 : xm_ck 69 = true := by decide +kernel
theorem xr_70 : xm_ck 70 = true := by decide +kernel
theorem xr_71 : xm_ck 71 = true := by decide +kernel
theorem xr_72 : xm_ck 72 = true := by decide +kernel
theorem xr_73 : xm_ck 73 = true := by decide +kernel
theorem xr_74 : xm_ck 74 = true := by decide +kernel
theorem xr_75 : xm_ck 75 = true := by decide +kernel
theorem xr_76 : xm_ck 76 = true := by decide +kernel
theorem xr_77 : xm_ck 77 = true := by decide +kernel
theorem xr_78 : xm_ck 78 = true := by decide +kernel
theorem xr_79 : xm_ck 79 = true := by decide +kernel
theorem xr_80 : xm_ck 80 = true := by decide +kernel
theorem xr_81 : xm_ck 81 = true := by decide +kernel
theorem xr_82 : xm_ck 82 = true := by decide +kernel
theorem xr_83 : xm_ck 83 = true := by decide +kernel
theorem xr_84 : xm_ck 84 = true := by decide +kernel
theorem xr_85 : xm_ck 85 = true := by decide +kernel
theorem xr_86 : xm_ck 86 = true := by decide +kernel
theorem xr_87 : xm_ck 87 = true := by decide +kernel
theorem xr_88 : xm_ck 88 = true := by decide +kernel
theorem xr_89 : xm_ck 89 = true := by decide +kernel
theorem xr_90 : xm_ck 90 = true := by decide +kernel
theorem xr_91 : xm_ck 91 = true := by decide +kernel
theorem xr_92 : xm_ck 92 = true := by decide +kernel
theorem xr_93 : xm_ck 93 = true := by decide +kernel
theorem xr_94 : xm_ck 94 = true := by decide +kernel
theorem xr_95 : xm_ck 95 = true := by decide +kernel
theorem xr_96 : xm_ck 96 = true := by decide +kernel
theorem xr_97 : xm_ck 97 = true := by decide +kernel
theorem xr_98 : xm_ck 98 = true := by decide +kernel
theorem xr_99 : xm_ck 99 = true := by decide +kernel
theorem xr_100 : xm_ck 100 = true := by decide +kernel
theorem xr_101 : xm_ck 101 = true := by decide +kernel
theorem xr_102 : xm_ck 102 = true := by decide +kernel
theorem xr_103 : xm_ck 103 = true := by decide +kernel
theorem xr_104 : xm_ck 104 = true := by decide +kernel
theorem xr_105 : xm_ck 105 = true := by decide +kernel
theorem xr_106 : xm_ck 106 = true := by decide +kernel
theorem xr_107 : xm_ck 107 = true := by decide +kernel
theorem xr_108 : xm_ck 108 = true := by decide +kernel
theorem xr_109 : xm_ck 109 = true := by decide +kernel
theorem xr_110 : xm_ck 110 = true := by decide +kernel
theorem xr_111 : xm_ck 111 = true := by decide +kernel
theorem xr_112 : xm_ck 112 = true := by decide +kernel
theorem xr_113 : xm_ck 113 = true := by decide +kernel
theorem xr_114 : xm_ck 114 = true := by decide +kernel
theorem xr_115 : xm_ck 115 = true := by decide +kernel
theorem xr_116 : xm_ck 116 = true := by decide +kernel
theorem xr_117 : xm_ck 117 = true := by decide +kernel
theorem xr_118 : xm_ck 118 = true := by decide +kernel
theorem xr_119 : xm_ck 119 = true := by decide +kernel
theorem xr_120 : xm_ck 120 = true := by decide +kernel
theorem xr_121 : xm_ck 121 = true := by decide +kernel
theorem xr_122 : xm_ck 122 = true := by decide +kernel
theorem xr_123 : xm_ck 123 = true := by decide +kernel
theorem xr_124 : xm_ck 124 = true := by decide +kernel
theorem xr_125 : xm_ck 125 = true := by decide +kernel
theorem xr_126 : xm_ck 126 = true := by decide +kernel
theorem xr_127 : xm_ck 127 = true := by decide +kernel
theorem xr_128 : xm_ck 128 = true := by decide +kernel
theorem xr_129 : xm_ck 129 = true := by decide +kernel
theorem xr_130 : xm_ck 130 = true := by decide +kernel
theorem xr_131 : xm_ck 131 = true := by decide +kernel
theorem xr_132 : xm_ck 132 = true := by decide +kernel
theorem xr_133 : xm_ck 133 = true := by decide +kernel
theorem xr_134 : xm_ck 134 = true := by decide +kernel
theorem xr_135 : xm_ck 135 = true := by decide +kernel
theorem xr_136 : xm_ck 136 = true := by decide +kernel
theorem xr_137 : xm_ck 137 = true := by decide +kernel
theorem xr_138 : xm_ck 138 = true := by decide +kernel
theorem xr_139 : xm_ck 139 = true := by decide +kernel
theorem xr_140 : xm_ck 140 = true := by decide +kernel
theorem xr_141 : xm_ck 141 = true := by decide +kernel
theorem xr_142 : xm_ck 142 = true := by decide +kernel
theorem xr_143 : xm_ck 143 = true := by decide +kernel
theorem xr_144 : xm_ck 144 = true := by decide +kernel
theorem xr_145 : xm_ck 145 = true := by decide +kernel
theorem xr_146 : xm_ck 146 = true := by decide +kernel
theorem xr_147 : xm_ck 147 = true := by decide +kernel
theorem xr_148 : xm_ck 148 = true := by decide +kernel
theorem xr_149 : xm_ck 149 = true := by decide +kernel
theorem xr_150 : xm_ck 150 = true := by decide +kernel
theorem xr_151 : xm_ck 151 = true := by decide +kernel
theorem xr_152 : xm_ck 152 = true := by decide +kernel
theorem xr_153 : xm_ck 153 = true := by decide +kernel
theorem xr_154 : xm_ck 154 = true := by decide +kernel
theorem xr_155 : xm_ck 155 = true := by decide +kernel
theorem xr_156 : xm_ck 156 = true := by decide +kernel
theorem xr_157 : xm_ck 157 = true := by decide +kernel
theorem xr_158 : xm_ck 158 = true := by decide +kernel
theorem xr_159 : xm_ck 159 = true := by decide +kernel
theorem xr_160 : xm_ck 160 = true := by decide +kernel
theorem xr_161 : xm_ck 161 = true := by decide +kernel
theorem xr_162 : xm_ck 162 = true := by decide +kernel
theorem xr_163 : xm_ck 163 = true := by decide +kernel
theorem xr_164 : xm_ck 164 = true := by decide +kernel
theorem xr_165 : xm_ck 165 = true := by decide +kernel
theorem xr_166 : xm_ck 166 = true := by decide +kernel
theorem xr_167 : xm_ck 167 = true := by decide +kernel
theorem xr_168 : xm_ck 168 = true := by decide +kernel
theorem xr_169 : xm_ck 169 = true := by decide +kernel
theorem xr_170 : xm_ck 170 = true := by decide +kernel
theorem xr_171 : xm_ck 171 = true := by decide +kernel
theorem xr_172 : xm_ck 172 = true := by decide +kernel
theorem xr_173 : xm_ck 173 = true := by decide +kernel
theorem xr_174 : xm_ck 174 = true := by decide +kernel
theorem xr_175 : xm_ck 175 = true := by decide +kernel
theorem xr_176 : xm_ck 176 = true := by decide +kernel
theorem xr_177 : xm_ck 177 = true := by decide +kernel
theorem xr_178 : xm_ck 178 = true := by decide +kernel
theorem xr_179 : xm_ck 179 = true := by decide +kernel
theorem xr_180 : xm_ck 180 = true := by decide +kernel
theorem xr_181 : xm_ck 181 = true := by decide +kernel
theorem xr_182 : xm_ck 182 = true := by decide +kernel
theorem xr_183 : xm_ck 183 = true := by decide +kernel
theorem xr_184 : xm_ck 184 = true := by decide +kernel
theorem xr_185 : xm_ck 185 = true := by decide +kernel
theorem xr_186 : xm_ck 186 = true := by decide +kernel
theorem xr_187 : xm_ck 187 = true := by decide +kernel
theorem xr_188 : xm_ck 188 = true := by decide +kernel
theorem xr_189 : xm_ck 189 = true := by decide +kernel
theorem xr_190 : xm_ck 190 = true := by decide +kernel
theorem xr_191 : xm_ck 191 = true := by decide +kernel
theorem xr_192 : xm_ck 192 = true := by decide +kernel
theorem xr_193 : xm_ck 193 = true := by decide +kernel
theorem xr_194 : xm_ck 194 = true := by decide +kernel
theorem xr_195 : xm_ck 195 = true := by decide +kernel
theorem xr_196 : xm_ck 196 = true := by decide +kernel
theorem xr_197 : xm_ck 197 = true := by decide +kernel
theorem xr_198 : xm_ck 198 = true := by decide +kernel
theorem xr_199 : xm_ck 199 = true := by decide +kernel
theorem xr_200 : xm_ck 200 = true := by decide +kernel
theorem xr_201 : xm_ck 201 = true := by decide +kernel
theorem xr_202 : xm_ck 202 = true := by decide +kernel
theorem xr_203 : xm_ck 203 = true := by decide +kernel
theorem xr_204 : xm_ck 204 = true := by decide +kernel
theorem xr_205 : xm_ck 205 = true := by decide +kernel
theorem xr_206 : xm_ck 206 = true := by decide +kernel
theorem xr_207 : xm_ck 207 = true := by decide +kernel
theorem xr_208 : xm_ck 208 = true := by decide +kernel
theorem xr_209 : xm_ck 209 = true := by decide +kernel
theorem xr_210 : xm_ck 210 = true := by decide +kernel
theorem xr_211 : xm_ck 211 = true := by decide +kernel
theorem xr_212 : xm_ck 212 = true := by decide +kernel
theorem xr_213 : xm_ck 213 = true := by decide +kernel
theorem xr_214 : xm_ck 214 = true := by decide +kernel
theorem xr_215 : xm_ck 215 = true := by decide +kernel
theorem xr_216 : xm_ck 216 = true := by decide +kernel
theorem xr_217 : xm_ck 217 = true := by decide +kernel
theorem xr_218 : xm_ck 218 = true := by decide +kernel
theorem xr_219 : xm_ck 219 = true := by decide +kernel
theorem xr_220 : xm_ck 220 = true := by decide +kernel
theorem xr_221 : xm_ck 221 = true := by decide +kernel
theorem xr_222 : xm_ck 222 = true := by decide +kernel
theorem xr_223 : xm_ck 223 = true := by decide +kernel
theorem xr_224 : xm_ck 224 = true := by decide +kernel
theorem xr_225 : xm_ck 225 = true := by decide +kernel
theorem xr_226 : xm_ck 226 = true := by decide +kernel
theorem xr_227 : xm_ck 227 = true := by decide +kernel
theorem xr_228 : xm_ck 228 = true := by decide +kernel
theorem xr_229 : xm_ck 229 = true := by decide +kernel
theorem xr_230 : xm_ck 230 = true := by decide +kernel
theorem xr_231 : xm_ck 231 = true := by decide +kernel
theorem xr_232 : xm_ck 232 = true := by decide +kernel
theorem xr_233 : xm_ck 233 = true := by decide +kernel
theorem xr_234 : xm_ck 234 = true := by decide +kernel
theorem xr_235 : xm_ck 235 = true := by decide +kernel
theorem xr_236 : xm_ck 236 = true := by decide +kernel
theorem xr_237 : xm_ck 237 = true := by decide +kernel
theorem xr_238 : xm_ck 238 = true := by decide +kernel
theorem xr_239 : xm_ck 239 = true := by decide +kernel
theorem xr_240 : xm_ck 240 = true := by decide +kernel
theorem xr_241 : xm_ck 241 = true := by decide +kernel
theorem xr_242 : xm_ck 242 = true := by decide +kernel
theorem xr_243 : xm_ck 243 = true := by decide +kernel
theorem xr_244 : xm_ck 244 = true := by decide +kernel
theorem xr_245 : xm_ck 245 = true := by decide +kernel
theorem xr_246 : xm_ck 246 = true := by decide +kernel
theorem xr_247 : xm_ck 247 = true := by decide +kernel
theorem xr_248 : xm_ck 248 = true := by decide +kernel
theorem xr_249 : xm_ck 249 = true := by decide +kernel
theorem xr_250 : xm_ck 250 = true := by decide +kernel
theorem xr_251 : xm_ck 251 = true := by decide +kernel
theorem xr_252 : xm_ck 252 = true := by decide +kernel
theorem xr_253 : xm_ck 253 = true := by decide +kernel
theorem xr_254 : xm_ck 254 = true := by decide +kernel
theorem xr_255 : xm_ck 255 = true := by decide +kernel
theorem xr_256 : xm_ck 256 = true := by decide +kernel
theorem xr_257 : xm_ck 257 = true := by decide +kernel
theorem xr_258 : xm_ck 258 = true := by decide +kernel
theorem xr_259 : xm_ck 259 = true := by decide +kernel
theorem xr_260 : xm_ck 260 = true := by decide +kernel
theorem xr_261 : xm_ck 261 = true := by decide +kernel
theorem xr_262 : xm_ck 262 = true := by decide +kernel
theorem xr_263 : xm_ck 263 = true := by decide +kernel
theorem xr_264 : xm_ck 264 = true := by decide +kernel
theorem xr_265 : xm_ck 265 = true := by decide +kernel
theorem xr_266 : xm_ck 266 = true := by decide +kernel
theorem xr_267 : xm_ck 267 = true := by decide +kernel
theorem xr_268 : xm_ck 268 = true := by decide +kernel
theorem xr_269 : xm_ck 269 = true := by decide +kernel
theorem xr_270 : xm_ck 270 = true := by decide +kernel
theorem xr_271 : xm_ck 271 = true := by decide +kernel
theorem xr_272 : xm_ck 272 = true := by decide +kernel
theorem xr_273 : xm_ck 273 = true := by decide +kernel
theorem xr_274 : xm_ck 274 = true := by decide +kernel
theorem xr_275 : xm_ck 275 = true := by decide +kernel
theorem xr_all : ∀ μ : Nat, μ < 276 → xm_ck μ = true := by
  intro μ h
  match μ, h with
  | 0, _ => exact xr_0
  | 1, _ => exact xr_1
  | 2, _ => exact xr_2
  | 3, _ => exact xr_3
  | 4, _ => exact xr_4
  | 5, _ => exact xr_5
  | 6, _ => exact xr_6
  | 7, _ => exact xr_7
  | 8, _ => exact xr_8
  | 9, _ => exact xr_9
  | 10, _ => exact xr_10
  | 11, _ => exact xr_11
  | 12, _ => exact xr_12
  | 13, _ => exact xr_13
  | 14, _ => exact xr_14
  | 15, _ => exact xr_15
  | 16, _ => exact xr_16
  | 17, _ => exact xr_17
  | 18, _ => exact xr_18
  | 19, _ => exact xr_19
  | 20, _ => exact xr_20
  | 21, _ => exact xr_21
  | 22, _ => exact xr_22
  | 23, _ => exact xr_23
  | 24, _ => exact xr_24
  | 25, _ => exact xr_25
  | 26, _ => exact xr_26
  | 27, _ => exact xr_27
  | 28, _ => exact xr_28
  | 29, _ => exact xr_29
  | 30, _ => exact xr_30
  | 31, _ => exact xr_31
  | 32, _ => exact xr_32
  | 33, _ => exact xr_33
  | 34, _ => exact xr_34
  | 35, _ => exact xr_35
  | 36, _ => exact xr_36
  | 37, _ => exact xr_37
  | 38, _ => exact xr_38
  | 39, _ => exact xr_39
  | 40, _ => exact xr_40
  | 41, _ => exact xr_41
  | 42, _ => exact xr_42
  | 43, _ => exact xr_43
  | 44, _ => exact xr_44
  | 45, _ => exact xr_45
  | 46, _ => exact xr_46
  | 47, _ => exact xr_47
  | 48, _ => exact xr_48
  | 49, _ => exact xr_49
  | 50, _ => exact xr_50
  | 51, _ => exact xr_51
  | 52, _ => exact xr_52
  | 53, _ => exact xr_53
  | 54, _ => exact xr_54
  | 55, _ => exact xr_55
  | 56, _ => exact xr_56
  | 57, _ => exact xr_57
  | 58, _ => exact xr_58
  | 59, _ => exact xr_59
  | 60, _ => exact xr_60
  | 61, _ => exact xr_61
  | 62, _ => exact xr_62
  | 63, _ => exact xr_63
  | 64, _ => exact xr_64
  | 65, _ => exact xr_65
  | 66, _ => exact xr_66
  | 67, _ => exact xr_67
  | 68, _ => exact xr_68
  | 69, _ => exact xr_69
  | 70, _ => exact xr_70
  | 71, _ => exact xr_71
  | 72, _ => exact xr_72
  | 73, _ => exact xr_73
  | 74, _ => exact xr_74
  | 75, _ => exact xr_75
  | 76, _ => exact xr_76
  | 77, _ => exact xr_77
  | 78, _ => exact xr_78
  | 79, _ => exact xr_79
  | 80, _ => exact xr_80
  | 81, _ => exact xr_81
  | 82, _ => exact xr_82
  | 83, _ => exact xr_83
  | 84, _ => exact xr_84
  | 85, _ => exact xr_85
  | 86, _ => exact xr_86
  | 87, _ => exact xr_87
  | 88, _ => exact xr_88
  | 89, _ => exact xr_89
  | 90, _ => exact xr_90
  | 91, _ => exact xr_91
  | 92, _ => exact xr_92
  | 93, _ => exact xr_93
  | 94, _ => exact xr_94
  | 95, _ => exact xr_95
  | 96, _ => exact xr_96
  | 97, _ => exact xr_97
  | 98, _ => exact xr_98
  | 99, _ => exact xr_99
  | 100, _ => exact xr_100
  | 101, _ => exact xr_101
  | 102, _ => exact xr_102
  | 103, _ => exact xr_103
  | 104, _ => exact xr_104
  | 105, _ => exact xr_105
  | 106, _ => exact xr_106
  | 107, _ => exact xr_107
  | 108, _ => exact xr_108
  | 109, _ => exact xr_109
  | 110, _ => exact xr_110
  | 111, _ => exact xr_111
  | 112, _ => exact xr_112
  | 113, _ => exact xr_113
  | 114, _ => exact xr_114
  | 115, _ => exact xr_115
  | 116, _ => exact xr_116
  | 117, _ => exact xr_117
  | 118, _ => exact xr_118
  | 119, _ => exact xr_119
  | 120, _ => exact xr_120
  | 121, _ => exact xr_121
  | 122, _ => exact xr_122
  | 123, _ => exact xr_123
  | 124, _ => exact xr_124
  | 125, _ => exact xr_125
  | 126, _ => exact xr_126
  | 127, _ => exact xr_127
  | 128, _ => exact xr_128
  | 129, _ => exact xr_129
  | 130, _ => exact xr_130
  | 131, _ => exact xr_131
  | 132, _ => exact xr_132
  | 133, _ => exact xr_133
  | 134, _ => exact xr_134
  | 135, _ => exact xr_135
  | 136, _ => exact xr_136
  | 137, _ => exact xr_137
  | 138, _ => exact xr_138
  | 139, _ => exact xr_139
  | 140, _ => exact xr_140
  | 141, _ => exact xr_141
  | 142, _ => exact xr_142
  | 143, _ => exact xr_143
  | 144, _ => exact xr_144
  | 145, _ => exact xr_145
  | 146, _ => exact xr_146
  | 147, _ => exact xr_147
  | 148, _ => exact xr_148
  | 149, _ => exact xr_149
  | 150, _ => exact xr_150
  | 151, _ => exact xr_151
  | 152, _ => exact xr_152
  | 153, _ => exact xr_153
  | 154, _ => exact xr_154
  | 155, _ => exact xr_155
  | 156, _ => exact xr_156
  | 157, _ => exact xr_157
  | 158, _ => exact xr_158
  | 159, _ => exact xr_159
  | 160, _ => exact xr_160
  | 161, _ => exact xr_161
  | 162, _ => exact xr_162
  | 163, _ => exact xr_163
  | 164, _ => exact xr_164
  | 165, _ => exact xr_165
  | 166, _ => exact xr_166
  | 167, _ => exact xr_167
  | 168, _ => exact xr_168
  | 169, _ => exact xr_169
  | 170, _ => exact xr_170
  | 171, _ => exact xr_171
  | 172, _ => exact xr_172
  | 173, _ => exact xr_173
  | 174, _ => exact xr_174
  | 175, _ => exact xr_175
  | 176, _ => exact xr_176
  | 177, _ => exact xr_177
  | 178, _ => exact xr_178
  | 179, _ => exact xr_179
  | 180, _ => exact xr_180
  | 181, _ => exact xr_181
  | 182, _ => exact xr_182
  | 183, _ => exact xr_183
  | 184, _ => exact xr_184
  | 185, _ => exact xr_185
  | 186, _ => exact xr_186
  | 187, _ => exact xr_187
  | 188, _ => exact xr_188
  | 189, _ => exact xr_189
  | 190, _ => exact xr_190
  | 191, _ => exact xr_191
  | 192, _ => exact xr_192
  | 193, _ => exact xr_193
  | 194, _ => exact xr_194
  | 195, _ => exact xr_195
  | 196, _ => exact xr_196
  | 197, _ => exact xr_197
  | 198, _ => exact xr_198
  | 199, _ => exact xr_199
  | 200, _ => exact xr_200
  | 201, _ => exact xr_201
  | 202, _ => exact xr_202
  | 203, _ => exact xr_203
  | 204, _ => exact xr_204
  | 205, _ => exact xr_205
  | 206, _ => exact xr_206
  | 207, _ => exact xr_207
  | 208, _ => exact xr_208
  | 209, _ => exact xr_209
  | 210, _ => exact xr_210
  | 211, _ => exact xr_211
  | 212, _ => exact xr_212
  | 213, _ => exact xr_213
  | 214, _ => exact xr_214
  | 215, _ => exact xr_215
  | 216, _ => exact xr_216
  | 217, _ => exact xr_217
  | 218, _ => exact xr_218
  | 219, _ => exact xr_219
  | 220, _ => exact xr_220
  | 221, _ => exact xr_221
  | 222, _ => exact xr_222
  | 223, _ => exact xr_223
  | 224, _ => exact xr_224
  | 225, _ => exact xr_225
  | 226, _ => exact xr_226
  | 227, _ => exact xr_227
  | 228, _ => exact xr_228
  | 229, _ => exact xr_229
  | 230, _ => exact xr_230
  | 231, _ => exact xr_231
  | 232, _ => exact xr_232
  | 233, _ => exact xr_233
  | 234, _ => exact xr_234
  | 235, _ => exact xr_235
  | 236, _ => exact xr_236
  | 237, _ => exact xr_237
  | 238, _ => exact xr_238
  | 239, _ => exact xr_239
  | 240, _ => exact xr_240
  | 241, _ => exact xr_241
  | 242, _ => exact xr_242
  | 243, _ => exact xr_243
  | 244, _ => exact xr_244
  | 245, _ => exact xr_245
  | 246, _ => exact xr_246
  | 247, _ => exact xr_247
  | 248, _ => exact xr_248
  | 249, _ => exact xr_249
  | 250, _ => exact xr_250
  | 251, _ => exact xr_251
  | 252, _ => exact xr_252
  | 253, _ => exact xr_253
  | 254, _ => exact xr_254
  | 255, _ => exact xr_255
  | 256, _ => exact xr_256
  | 257, _ => exact xr_257
  | 258, _ => exact xr_258
  | 259, _ => exact xr_259
  | 260, _ => exact xr_260
  | 261, _ => exact xr_261
  | 262, _ => exact xr_262
  | 263, _ => exact xr_263
  | 264, _ => exact xr_264
  | 265, _ => exact xr_265
  | 266, _ => exact xr_266
  | 267, _ => exact xr_267
  | 268, _ => exact xr_268
  | 269, _ => exact xr_269
  | 270, _ => exact xr_270
  | 271, _ => exact xr_271
  | 272, _ => exact xr_272
  | 273, _ => exact xr_273
  | 274, _ => exact xr_274
  | 275, _ => exact xr_275
  | n + 276, h => exact absurd h (by omega)
set_option maxRecDepth 100000 in
theorem xs_all : (List.range 276).map (fun μ => xt (xm_P.getD μ (0, 0, 0, 0)).1) = (List.range 276).map (fun μ => some (Cond.code (xm μ).1 (xm μ).2.1 (xm μ).2.2.1 (xm μ).2.2.2.1)) := by rfl
theorem xs_at {μ : Nat} (h : μ < 276) : Cond.code (xm μ).1 (xm μ).2.1 (xm μ).2.2.1 (xm μ).2.2.2.1 ∈ xe_T := by
  have h1 := congrArg (fun l => l[μ]?) xs_all
  simp only [List.getElem?_map, List.getElem?_range h, Option.map_some, Option.some.injEq] at h1
  exact xt_mem h1
/-- classes -/
def xk_ck (x : Nat) : Bool := match xk_cl[x]? with
  | some r => (List.range r.2.2).all (fun k => decide (xt ((xk_pp.getD x (0, 0, 0)).1 + k) = some (u_lay r.1 r.2.1 k)) && decide (parseFieldDescriptor (r.2.1 k).2.2.1 = some (xk_ty x k)))
    && decide (xt (xk_pp.getD x (0, 0, 0)).2.1 = some (.instantiable r.1 r.2.2)) && decide (xt (xk_pp.getD x (0, 0, 0)).2.2 = some (.initialized r.1))
    && (List.range r.2.2).all (fun a => (List.range r.2.2).all (fun b => a == b || decide ((r.2.1 a).2.1 ≠ (r.2.1 b).2.1)))
  | none => true
theorem xu_0 : xk_ck 0 = true := by decide +kernel
theorem xu_1 : xk_ck 1 = true := by decide +kernel
theorem xu_2 : xk_ck 2 = true := by decide +kernel
theorem xu_3 : xk_ck 3 = true := by decide +kernel
theorem xu_4 : xk_ck 4 = true := by decide +kernel
theorem xu_5 : xk_ck 5 = true := by decide +kernel
theorem xu_6 : xk_ck 6 = true := by decide +kernel
theorem xu_7 : xk_ck 7 = true := by decide +kernel
theorem xu_8 : xk_ck 8 = true := by decide +kernel
theorem xu_9 : xk_ck 9 = true := by decide +kernel
theorem xu_10 : xk_ck 10 = true := by decide +kernel
theorem xu_11 : xk_ck 11 = true := by decide +kernel
theorem xu_12 : xk_ck 12 = true := by decide +kernel
theorem xu_all {x : Nat} {r : vw_C} (h : xk_cl[x]? = some r) : xk_ck x = true := by
  match x with
  | 0 => exact xu_0
  | 1 => exact xu_1
  | 2 => exact xu_2
  | 3 => exact xu_3
  | 4 => exact xu_4
  | 5 => exact xu_5
  | 6 => exact xu_6
  | 7 => exact xu_7
  | 8 => exact xu_8
  | 9 => exact xu_9
  | 10 => exact xu_10
  | 11 => exact xu_11
  | 12 => exact xu_12
  | n + 13 => exact absurd h (by rw [List.getElem?_eq_none (by show xk_cl.length ≤ n + 13; have : xk_cl.length = 13 := rfl; omega)]; exact fun h => by cases h)
theorem xu_w {x : Nat} {r : vw_C} (h : xk_cl[x]? = some r) : (∀ w ∈ u_ws r.1 r.2.1 r.2.2, w ∈ xe_T) ∧ (∀ k, k < r.2.2 → parseFieldDescriptor (r.2.1 k).2.2.1 = some (xk_ty x k)) ∧ Cond.instantiable r.1 r.2.2 ∈ xe_T ∧ Cond.initialized r.1 ∈ xe_T ∧ ∀ a, a < r.2.2 → ∀ b, b < r.2.2 → a ≠ b → (r.2.1 a).2.1 ≠ (r.2.1 b).2.1 := by
  have h1 := xu_all h
  unfold xk_ck at h1
  rw [h] at h1
  simp only [Bool.and_eq_true, List.all_eq_true, List.mem_range, decide_eq_true_eq, Bool.or_eq_true, beq_iff_eq] at h1
  obtain ⟨⟨⟨h2, h3⟩, h4⟩, h5⟩ := h1
  refine ⟨fun w hw => ?_, fun k hk => (h2 k hk).2, xt_mem h3, xt_mem h4, fun a ha b hb hne => ?_⟩
  · obtain ⟨k, hk, rfl⟩ := List.mem_map.mp hw
    exact xt_mem (h2 k (List.mem_range.mp hk)).1
  · rcases h5 a ha b hb with e | e
    · exact absurd e hne
    · exact e
theorem xw_arr : Cond.arrayClass .int ∈ xe_T ∧ Cond.arrayClass .byte ∈ xe_T ∧ Cond.arrayClass .long ∈ xe_T := ⟨xt_mem (z := xi_arr.1) (by decide +kernel), xt_mem (z := xi_arr.2.1) (by decide +kernel), xt_mem (z := xi_arr.2.2) (by decide +kernel)⟩
theorem xw_math : Cond.initialized "java/lang/Math" ∈ xe_T ∧ Cond.initialized "java/lang/System" ∈ xe_T ∧ Cond.static arraycopyName ∈ xe_T ∧ Cond.native arraycopyName ∈ xe_T := ⟨xt_mem (z := xi_math) (by decide +kernel), xt_mem (z := xi_sys) (by decide +kernel), xt_mem (z := xi_acs) (by decide +kernel), xt_mem (z := xi_acn) (by decide +kernel)⟩
theorem xw_max : Cond.static Lib.Math.max.name ∈ xe_T ∧ Cond.code Lib.Math.max.name Lib.Math.max.code 2 (some .int) ∈ xe_T := ⟨xt_mem (z := xi_max.1) (by decide +kernel), xt_mem (z := xi_max.2) (by decide +kernel)⟩
theorem xw_min : Cond.static Lib.Math.min.name ∈ xe_T ∧ Cond.code Lib.Math.min.name Lib.Math.min.code 2 (some .int) ∈ xe_T := ⟨xt_mem (z := xi_min.1) (by decide +kernel), xt_mem (z := xi_min.2) (by decide +kernel)⟩
theorem xw_abs : Cond.static Lib.MathLoose.abs_long.x ∈ xe_T ∧ Cond.code Lib.MathLoose.abs_long.x Lib.MathLoose.abs_long.code 2 (some .long) ∈ xe_T := ⟨xt_mem (z := xi_abs.1) (by decide +kernel), xt_mem (z := xi_abs.2) (by decide +kernel)⟩
theorem xw_obj : Cond.instanceMethod Lib.objectInit ∈ xe_T ∧ Cond.code Lib.objectInit ⟨#[0xb1]⟩ 1 none ∈ xe_T := ⟨xt_mem (z := xi_objI) (by decide +kernel), xt_mem (z := xi_objC) (by decide +kernel)⟩
