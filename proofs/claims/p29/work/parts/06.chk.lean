/-! the tables are right: what is looked up in them holds of the code and of the words -/
def xe_cw (μ : Nat) (q : xe_I) : Bool := match q.1 with
  | .getfield i => match xk_cl[q.2.2.1]? with
    | some r => Nat.ble (q.2.2.2.1 + 1) r.2.2 && decide (xt q.2.2.2.2 = some (.fieldLink (xm μ).1.cls i (r.2.1 q.2.2.2.1).1 (r.2.1 q.2.2.2.1).2.1 (r.2.1 q.2.2.2.1).2.2.1))
    | none => false
  | .putfield i => match xk_cl[q.2.2.1]? with
    | some r => Nat.ble (q.2.2.2.1 + 1) r.2.2 && decide (xt q.2.2.2.2 = some (.fieldLink (xm μ).1.cls i (r.2.1 q.2.2.2.1).1 (r.2.1 q.2.2.2.1).2.1 (r.2.1 q.2.2.2.1).2.2.1)) && (if (r.2.1 q.2.2.2.1).2.2.2 then (xm μ).2.2.2.2.2.2.2 == 2 && decide ((r.2.1 q.2.2.2.1).1 = (xm μ).1.cls) else true)
    | none => false
  | .new i => match xk_cl[q.2.2.1]? with
    | some r => decide (xt q.2.2.2.2 = some (.classLink (xm μ).1.cls i r.1))
    | none => false
  | .anewarray i => decide (xt q.2.2.2.2 = some (.classLink (xm μ).1.cls i "SlideNight$Slide"))
  | .ldc i => if q.2.2.1 == 1 then decide (xs_T[q.2.2.2.1]?.map (fun t => (t.1, t.2.1)) = some ((xm μ).1.cls, i)) else Nat.ble q.2.2.2.1 4294967295 && decide (xt q.2.2.2.2 = some (.constant (xm μ).1.cls i (xe_j q.2.2.2.1)))
  | .ldc_w i => if q.2.2.1 == 1 then false else Nat.ble q.2.2.2.1 4294967295 && decide (xt q.2.2.2.2 = some (.constant (xm μ).1.cls i (xe_j q.2.2.2.1)))
  | .ldc2_w i => Nat.ble q.2.2.2.1 18446744073709551615 && decide (xt q.2.2.2.2 = some (.constantLong (xm μ).1.cls i (xe_k q.2.2.2.1)))
  | .invokevirtual i => if q.2.2.1 == 0 then decide (xt q.2.2.2.2 = some (.methodLink (xm μ).1.cls i (xm q.2.2.2.1).1)) else if q.2.2.1 == 6 then decide (xt q.2.2.2.2 = some (.methodLink (xm μ).1.cls i ⟨"java/lang/String", "indexOf", "(I)I"⟩)) else true
  | .invokestatic i => if q.2.2.1 == 0 then decide (xt q.2.2.2.2 = some (.methodLink (xm μ).1.cls i (xm q.2.2.2.1).1))
    else if q.2.2.1 == 1 then decide (xe_N[q.2.2.2.2]? = some (.methodLinkNest (xm μ).1.cls i (xm q.2.2.2.1).1 "SlideNight"))
    else if q.2.2.1 == 2 then decide (xt q.2.2.2.2 = some (.methodLink (xm μ).1.cls i Lib.Math.max.name))
    else if q.2.2.1 == 3 then decide (xt q.2.2.2.2 = some (.methodLink (xm μ).1.cls i Lib.Math.min.name))
    else if q.2.2.1 == 4 then decide (xt q.2.2.2.2 = some (.methodLink (xm μ).1.cls i Lib.MathLoose.abs_long.x))
    else if q.2.2.1 == 5 then decide (xt q.2.2.2.2 = some (.methodLink (xm μ).1.cls i arraycopyName))
    else if q.2.2.1 == 7 then decide (xt q.2.2.2.2 = some (.methodLink (xm μ).1.cls i ⟨"java/lang/Integer", "bitCount", "(I)I"⟩))
    else if q.2.2.1 == 8 then decide (xt q.2.2.2.2 = some (.methodLink (xm μ).1.cls i ⟨"java/lang/Math", "abs", "(I)I"⟩)) else true
  | .invokespecial i => if q.2.2.1 == 0 then decide (xt q.2.2.2.2 = some (.methodLink (xm μ).1.cls i (xm q.2.2.2.1).1))
    else if q.2.2.1 == 1 then decide (xt q.2.2.2.2 = some (.methodLink (xm μ).1.cls i Lib.objectInit)) else true
  | _ => true
def xe_chk (μ : Nat) (q : xe_I) (pc : Nat) : Bool := (xe_len q.1 == 0 || q.2.1 == xe_len q.1) && decide (decode (xm μ).2.1 pc = .ok (q.1, q.2.1)) && xe_cw μ q
def xe_ckm (μ : Nat) : Bool := (List.range (32 * (xc μ).length)).all (fun pc => match xe_look (xc μ) pc with
  | some q => xe_chk μ q pc
  | none => true)
def xe_ckr (μ k : Nat) : Bool := (List.range 32).all (fun j => match xe_look (xc μ) (32 * k + j) with
  | some q => xe_chk μ q (32 * k + j)
  | none => true)
/-- the same, by the bytes -/
def xe_chf (μ : Nat) (q : xe_I) (pc : Nat) : Bool := (xe_len q.1 == 0 || q.2.1 == xe_len q.1) && xd_by (xm μ).2.1 pc q.1 q.2.1 && xe_cw μ q
theorem xe_chf_ok {μ pc : Nat} {q : xe_I} (h : xe_chf μ q pc = true) : xe_chk μ q pc = true := by
  unfold xe_chf at h
  unfold xe_chk
  rw [Bool.and_eq_true, Bool.and_eq_true] at h ⊢
  exact ⟨⟨h.1.1, decide_eq_true (xd_ok h.1.2)⟩, h.2⟩
def xe_cfm (μ : Nat) : Bool := (List.range (32 * (xc μ).length)).all (fun pc => match xe_look (xc μ) pc with
  | some q => xe_chf μ q pc
  | none => true)
theorem xf_m {μ : Nat} (h : xe_cfm μ = true) : xe_ckm μ = true := by
  refine List.all_eq_true.mpr (fun pc hp => ?_)
  have h1 := List.all_eq_true.mp h pc hp
  cases hq : xe_look (xc μ) pc with
  | none => rfl
  | some q =>
    rw [hq] at h1
    exact xe_chf_ok h1
def xe_cfr (μ k : Nat) : Bool := (List.range 32).all (fun j => match xe_look (xc μ) (32 * k + j) with
  | some q => xe_chf μ q (32 * k + j)
  | none => true)
theorem xf_r {μ k : Nat} (h : xe_cfr μ k = true) : xe_ckr μ k = true := by
  refine List.all_eq_true.mpr (fun j hj => ?_)
  have h1 := List.all_eq_true.mp h j hj
  cases hq : xe_look (xc μ) (32 * k + j) with
  | none => rfl
  | some q =>
    rw [hq] at h1
    exact xe_chf_ok h1
/-- the same, in one walk of the bytes -/
def xz_ch (μ : Nat) (q : xe_I) (pc : Nat) (bs : List UInt8) : Bool := (xe_len q.1 == 0 || q.2.1 == xe_len q.1) && (match xd_e q.1 with
  | some l => Nat.beq q.2.1 l.length && xd_p bs l
  | none => decide (decode (xm μ).2.1 pc = .ok (q.1, q.2.1))) && xe_cw μ q
def xz_go (μ : Nat) : List (Option xe_I) → Nat → List UInt8 → Bool
  | [], _, _ => true
  | none :: rs, pc, bs => xz_go μ rs (pc + 1) bs.tail
  | some q :: rs, pc, bs => xz_ch μ q pc bs && xz_go μ rs (pc + 1) bs.tail
def xz_all (μ : Nat) : List (List (Option xe_I)) → Nat → List UInt8 → Bool
  | [], _, _ => true
  | l :: ls, pc, bs => xz_go μ l pc bs && xz_all μ ls (pc + 32) (bs.drop 32)
theorem xz_go_ok {μ : Nat} : ∀ (rs : List (Option xe_I)) (pc : Nat), xz_go μ rs pc ((xm μ).2.1.data.toList.drop pc) = true → ∀ (j : Nat) (q : xe_I), rs[j]? = some (some q) → xe_chf μ q (pc + j) = true := by
  intro rs
  induction rs with
  | nil =>
    intro pc _ j q hq
    cases hq
  | cons r rs ih =>
    intro pc h j q hq
    have ht : ((xm μ).2.1.data.toList.drop pc).tail = (xm μ).2.1.data.toList.drop (pc + 1) := by rw [List.tail_drop]
    cases j with
    | zero =>
      have hq : r = some q := Option.some.inj hq
      subst hq
      unfold xz_go at h
      rw [Bool.and_eq_true] at h
      exact h.1
    | succ j =>
      have hq : rs[j]? = some (some q) := hq
      have h2 : xz_go μ rs (pc + 1) ((xm μ).2.1.data.toList.drop (pc + 1)) = true := by
        rw [← ht]
        cases r with
        | none => exact h
        | some q2 =>
          unfold xz_go at h
          rw [Bool.and_eq_true] at h
          exact h.2
      have := ih (pc + 1) h2 j q hq
      rw [show pc + 1 + j = pc + (j + 1) by omega] at this
      exact this
theorem xz_all_ok {μ : Nat} : ∀ (ls : List (List (Option xe_I))) (pc : Nat), xz_all μ ls pc ((xm μ).2.1.data.toList.drop pc) = true → ∀ (k j : Nat) (l : List (Option xe_I)) (q : xe_I), ls[k]? = some l → l[j]? = some (some q) → xe_chf μ q (pc + 32 * k + j) = true := by
  intro ls
  induction ls with
  | nil =>
    intro pc _ k j l q hl
    cases hl
  | cons l0 ls ih =>
    intro pc h k j l q hl hq
    unfold xz_all at h
    rw [Bool.and_eq_true, List.drop_drop] at h
    cases k with
    | zero =>
      have hl : l0 = l := Option.some.inj hl
      subst hl
      exact xz_go_ok _ _ h.1 j q hq
    | succ k =>
      have hl : ls[k]? = some l := hl
      have := ih (pc + 32) h.2 k j l q hl hq
      rw [show pc + 32 + 32 * k + j = pc + 32 * (k + 1) + j by omega] at this
      exact this
theorem xz_m {μ : Nat} (h : xz_all μ (xc μ) 0 (xm μ).2.1.data.toList = true) : xe_ckm μ = true := by
  refine List.all_eq_true.mpr (fun pc hp => ?_)
  cases hq : xe_look (xc μ) pc with
  | none => rfl
  | some q =>
    refine xe_chf_ok ?_
    unfold xe_look at hq
    split at hq
    · next l hl =>
      split at hq
      · next r hr =>
        subst hq
        have := xz_all_ok (xc μ) 0 h (pc / 32) (pc % 32) l q hl hr
        rw [show 0 + 32 * (pc / 32) + pc % 32 = pc by omega] at this
        exact this
      · cases hq
    · cases hq
theorem xq_L : (List.range 277).all (fun μ => xz_all μ (xc μ) 0 (xm μ).2.1.data.toList) = true := by decide +kernel
theorem xq_all : ∀ μ : Nat, μ < 277 → xe_ckm μ = true := fun μ h => xz_m (List.all_eq_true.mp xq_L μ (List.mem_range.mpr h))
theorem xc_out {μ : Nat} (h : 277 ≤ μ) : xc μ = [] := by
  rcases Nat.lt_or_ge μ 288 with z | z
  · obtain ⟨k, hk, rfl⟩ : ∃ k, k < 11 ∧ μ = 277 + k := ⟨μ - 277, by omega, by omega⟩
    have : ∀ k, k < 11 → (xc (277 + k)).isEmpty = true := by decide +kernel
    exact List.isEmpty_iff.mp (this k hk)
  · have hl : xc_B.length = 18 := by decide +kernel
    have e : xc_B[μ / 16]? = none := List.getElem?_eq_none (by omega)
    unfold xc
    rw [e]
theorem xe_ck {μ pc : Nat} {q : xe_I} (h : xe_look (xc μ) pc = some q) : xe_chk μ q pc = true := by
  rcases Nat.lt_or_ge μ 277 with hm | hm
  · have h1 := List.all_eq_true.mp (xq_all μ hm)
    rcases Nat.lt_or_ge pc (32 * (xc μ).length) with hp | hp
    · have h2 := h1 pc (List.mem_range.mpr hp)
      rw [h] at h2
      exact h2
    · have h3 : (xc μ)[pc / 32]? = none := List.getElem?_eq_none (by omega)
      unfold xe_look at h
      rw [h3] at h
      cases h
  · rw [xc_out hm] at h
    cases h
/-- methods -/
def xm_ck (μ : Nat) : Bool := decide (xt (xm_P.getD μ (0, 0, 0, 0)).2.1 = some (.initialized (xm μ).1.cls))
  && (if (xm μ).2.2.2.2.2.2.2 == 0 then decide (xt (xm_P.getD μ (0, 0, 0, 0)).2.2.1 = some (.static (xm μ).1)) else decide (xt (xm_P.getD μ (0, 0, 0, 0)).2.2.1 = some (.instanceMethod (xm μ).1)))
  && (if (xm μ).2.2.2.2.2.2.2 == 1 then decide (xt (xm_P.getD μ (0, 0, 0, 0)).2.2.2 = some (.selects (xm μ).1.cls (xm μ).1 (xm μ).1)) else true)
  && (if (xm μ).2.2.2.2.2.2.2 == 2 then decide ((xm μ).1.name = "<init>") && decide ((xm μ).2.2.2.1 = none) else true)
  && plainName (xm μ).1.cls && decide ((xm μ).1.cls ≠ "java/lang/invoke/MethodHandle") && decide ((xm μ).1.cls ≠ "java/lang/invoke/VarHandle")
  && decide ((parseMethodDescriptor (xm μ).1.desc).map (fun d => d.parameters.length) = some (xm μ).2.2.2.2.2.1) && Nat.ble (xm μ).2.2.1 45
  && (match xk_cl[(xm μ).2.2.2.2.2.2.1]? with
    | some c => decide (c.1 = (xm μ).1.cls)
    | none => false)
theorem xr_L : (List.range 276).all xm_ck = true := by decide +kernel
theorem xr_all : ∀ μ : Nat, μ < 276 → xm_ck μ = true := fun μ h => List.all_eq_true.mp xr_L μ (List.mem_range.mpr h)
set_option maxRecDepth 100000 in
theorem xs_all : (List.range 276).map (fun μ => xt (xm_P.getD μ (0, 0, 0, 0)).1) = (List.range 276).map (fun μ => some (Cond.code (xm μ).1 (xm μ).2.1 (xm μ).2.2.1 (xm μ).2.2.2.1)) := by rfl
theorem xs_at {μ : Nat} (h : μ < 276) : Cond.code (xm μ).1 (xm μ).2.1 (xm μ).2.2.1 (xm μ).2.2.2.1 ∈ xe_T := by
  have h1 := congrArg (fun l => l[μ]?) xs_all
  simp only [List.getElem?_map, List.getElem?_range h, Option.map_some, Option.some.injEq] at h1
  exact xt_mem h1
/-- classes -/
def xk_ck (x : Nat) : Bool := match xk_cl[x]? with
  | some r => (List.range r.2.2).all (fun k => decide (xt ((xk_pp.getD x (0, 0, 0)).1 + k) = some (u_lay r.1 r.2.1 k)) && decide (parseFieldDescriptor (r.2.1 k).2.2.1 = some (xk_ty x k)))
    && decide (xt (xk_pp.getD x (0, 0, 0)).2.1 = some (.instantiable r.1 r.2.2)) && decide (xt (xk_pp.getD x (0, 0, 0)).2.2 = some (.initialized r.1))
    && (List.range r.2.2).all (fun a => (List.range r.2.2).all (fun b => a == b || decide ((r.2.1 a).2.1 ≠ (r.2.1 b).2.1)))
  | none => true
theorem xu_0 : xk_ck 0 = true := by decide +kernel
theorem xu_1 : xk_ck 1 = true := by decide +kernel
theorem xu_2 : xk_ck 2 = true := by decide +kernel
theorem xu_3 : xk_ck 3 = true := by decide +kernel
theorem xu_4 : xk_ck 4 = true := by decide +kernel
theorem xu_5 : xk_ck 5 = true := by decide +kernel
theorem xu_6 : xk_ck 6 = true := by decide +kernel
theorem xu_7 : xk_ck 7 = true := by decide +kernel
theorem xu_8 : xk_ck 8 = true := by decide +kernel
theorem xu_9 : xk_ck 9 = true := by decide +kernel
theorem xu_10 : xk_ck 10 = true := by decide +kernel
theorem xu_11 : xk_ck 11 = true := by decide +kernel
theorem xu_12 : xk_ck 12 = true := by decide +kernel
theorem xu_all {x : Nat} {r : vw_C} (h : xk_cl[x]? = some r) : xk_ck x = true := by
  match x with
  | 0 => exact xu_0
  | 1 => exact xu_1
  | 2 => exact xu_2
  | 3 => exact xu_3
  | 4 => exact xu_4
  | 5 => exact xu_5
  | 6 => exact xu_6
  | 7 => exact xu_7
  | 8 => exact xu_8
  | 9 => exact xu_9
  | 10 => exact xu_10
  | 11 => exact xu_11
  | 12 => exact xu_12
  | n + 13 => exact absurd h (by rw [List.getElem?_eq_none (by show xk_cl.length ≤ n + 13; have : xk_cl.length = 13 := rfl; omega)]; exact fun h => by cases h)
theorem xu_w {x : Nat} {r : vw_C} (h : xk_cl[x]? = some r) : (∀ w ∈ u_ws r.1 r.2.1 r.2.2, w ∈ xe_T) ∧ (∀ k, k < r.2.2 → parseFieldDescriptor (r.2.1 k).2.2.1 = some (xk_ty x k)) ∧ Cond.instantiable r.1 r.2.2 ∈ xe_T ∧ Cond.initialized r.1 ∈ xe_T ∧ ∀ a, a < r.2.2 → ∀ b, b < r.2.2 → a ≠ b → (r.2.1 a).2.1 ≠ (r.2.1 b).2.1 := by
  have h1 := xu_all h
  unfold xk_ck at h1
  rw [h] at h1
  simp only [Bool.and_eq_true, List.all_eq_true, List.mem_range, decide_eq_true_eq, Bool.or_eq_true, beq_iff_eq] at h1
  obtain ⟨⟨⟨h2, h3⟩, h4⟩, h5⟩ := h1
  refine ⟨fun w hw => ?_, fun k hk => (h2 k hk).2, xt_mem h3, xt_mem h4, fun a ha b hb hne => ?_⟩
  · obtain ⟨k, hk, rfl⟩ := List.mem_map.mp hw
    exact xt_mem (h2 k (List.mem_range.mp hk)).1
  · rcases h5 a ha b hb with e | e
    · exact absurd e hne
    · exact e
theorem xw_arr : Cond.arrayClass .int ∈ xe_T ∧ Cond.arrayClass .byte ∈ xe_T ∧ Cond.arrayClass .long ∈ xe_T := ⟨xt_mem (z := xi_arr.1) (by decide +kernel), xt_mem (z := xi_arr.2.1) (by decide +kernel), xt_mem (z := xi_arr.2.2) (by decide +kernel)⟩
theorem xw_math : Cond.initialized "java/lang/Math" ∈ xe_T ∧ Cond.initialized "java/lang/System" ∈ xe_T ∧ Cond.static arraycopyName ∈ xe_T ∧ Cond.native arraycopyName ∈ xe_T := ⟨xt_mem (z := xi_math) (by decide +kernel), xt_mem (z := xi_sys) (by decide +kernel), xt_mem (z := xi_acs) (by decide +kernel), xt_mem (z := xi_acn) (by decide +kernel)⟩
theorem xw_max : Cond.static Lib.Math.max.name ∈ xe_T ∧ Cond.code Lib.Math.max.name Lib.Math.max.code 2 (some .int) ∈ xe_T := ⟨xt_mem (z := xi_max.1) (by decide +kernel), xt_mem (z := xi_max.2) (by decide +kernel)⟩
theorem xw_min : Cond.static Lib.Math.min.name ∈ xe_T ∧ Cond.code Lib.Math.min.name Lib.Math.min.code 2 (some .int) ∈ xe_T := ⟨xt_mem (z := xi_min.1) (by decide +kernel), xt_mem (z := xi_min.2) (by decide +kernel)⟩
theorem xw_abs : Cond.static Lib.MathLoose.abs_long.x ∈ xe_T ∧ Cond.code Lib.MathLoose.abs_long.x Lib.MathLoose.abs_long.code 2 (some .long) ∈ xe_T := ⟨xt_mem (z := xi_abs.1) (by decide +kernel), xt_mem (z := xi_abs.2) (by decide +kernel)⟩
theorem xw_obj : Cond.instanceMethod Lib.objectInit ∈ xe_T ∧ Cond.code Lib.objectInit ⟨#[0xb1]⟩ 1 none ∈ xe_T := ⟨xt_mem (z := xi_objI) (by decide +kernel), xt_mem (z := xi_objC) (by decide +kernel)⟩
