/-! the reckoner's steps are right: what only changes the stack -/
def xe_S (b : Nat) (sc : List xe_v) (s : State) (A : Nat → Prop) : Prop := sc = [] ∨ ∃ xs : Nat → Int32, va_X b sc.length xs s s.heap ∧ b < s.heap.size ∧ ¬ A b ∧ (∀ (k : Nat) (a : xe_v), sc[k]? = some a → xe_g b [] a (.int (xs k))) ∧ sc.length < 2 ^ 31
def xe_X (p : Program) (R : Room) (s : State) (m : MethodId) (args : Array Value) (meth : Method) (c : Code) (D : va_G) (E : Nat → ClassId) (A : Nat → Prop) (b : Nat) (sc : List xe_v) (d μ : Nat) : Prop :=
  (p.tables.exec = Jvm.exec ∧ c.code = (xm μ).2.1 ∧ c.maxLocals = (xm μ).2.2.1 ∧ s.vm.findClass (xm μ).1.cls = some m.cls ∧ meth.sig.returnType = (xm μ).2.2.2.1 ∧ ((xm μ).2.2.2.2.2.2.2 = 2 → meth.name = (xm μ).1.name) ∧ meth.locks = false) ∧
  ((∀ w ∈ xe_T, w.before args s = true) ∧ (∀ w ∈ xe_N, va_Nw w s) ∧ va_AO "SlideNight$Slide" s ∧ va_K D xk_cl (xe_tys E) s) ∧
  ((∀ q : Nat, s.heap.size ≤ q → A q) ∧ d ≤ R.frames ∧ 64 * d ≤ R.locals ∧ (xm μ).2.2.2.2.1.1 ≤ R.cells ∧ (xm μ).2.2.2.2.1.2 ≤ R.slots) ∧ xe_S b sc s A
theorem xe_l1 {k len n : Nat} (h : (k == 0 || len == k) = true) (e : k = n) (hn : n ≠ 0) : len = n := by
  rw [Bool.or_eq_true] at h
  rcases h with z | z
  · have z : k = 0 := by simpa using z
    omega
  · have z : len = k := by simpa using z
    omega
theorem xe_ld_ok {b : Nat} {as : List Nat} {t : Nat} {lv : List (Nat × xe_v)} {lc : List (Nat × Value)} {i : Nat} {st st2 : List xe_v} (hp : xe_p b as lv lc) (h : xe_ld t lv i st = some st2) : ∃ (k : Nat) (v : Value) (a : xe_v), lc[k]? = some (i, v) ∧ xe_g b as a v ∧ (a.1 == t) = true ∧ st2 = a :: st := by
  unfold xe_ld at h
  split at h
  · next a ha =>
    obtain ⟨k, v, h1, h2⟩ := xe_p_lg hp ha
    split at h
    · next t =>
      cases h
      exact ⟨k, v, a, h1, h2, t, rfl⟩
    · cases h
  · cases h
theorem xe_la_ok {b : Nat} {as : List Nat} {lv : List (Nat × xe_v)} {lc : List (Nat × Value)} {i : Nat} {st st2 : List xe_v} (hp : xe_p b as lv lc) (h : xe_la lv i st = some st2) : ∃ (k : Nat) (v : Value) (a : xe_v), lc[k]? = some (i, v) ∧ xe_g b as a v ∧ (v = .null ∨ ∃ q, v = .ref q) ∧ st2 = a :: st := by
  unfold xe_la at h
  split at h
  · next a ha =>
    obtain ⟨k, v, h1, h2⟩ := xe_p_lg hp ha
    split at h
    · next t =>
      cases h
      refine ⟨k, v, a, h1, h2, ?_, rfl⟩
      rw [Bool.or_eq_true, Bool.or_eq_true] at t
      rcases t with (t | t) | t
      · exact Or.inl (xe_g2 t h2)
      · obtain ⟨q, -, e⟩ := xe_g3 t h2
        exact Or.inr ⟨q, e⟩
      · exact Or.inr ⟨b, xe_g4 t h2⟩
    · cases h
  · cases h
theorem xe_inI {n : Nat} (h : n < 2 ^ 31) : xe_i (nI n) = 2147483648 + n := by
  have h1 := xe_ti (nI n)
  rw [nI_toInt h] at h1
  omega
theorem xe_ix_ok {b : Nat} {as : List Nat} {i : xe_v} {v : Value} {n : Nat} (h : xe_ix i n = true) (hg : xe_g b as i v) : ∃ x : Int32, v = .int x ∧ vp_in x n ∧ x.toNatClampNeg = i.2.1 - 2147483648 ∧ i.2.1 - 2147483648 < n := by
  unfold xe_ix at h
  simp only [Bool.and_eq_true] at h
  obtain ⟨⟨⟨h1, h2⟩, h3⟩, h4⟩ := h
  obtain ⟨x, rfl, q1, q2⟩ := xe_g0 h1 hg
  have h2 : i.2.1 = i.2.2 := by simpa using h2
  have h3 := Nat.le_of_ble_eq_true h3
  have h4 := Nat.le_of_ble_eq_true h4
  have h5 := xe_i_lt x
  have h6 : i.2.1 - 2147483648 < 2 ^ 31 := by omega
  have e : x = nI (i.2.1 - 2147483648) := xe_nI (by omega)
  refine ⟨x, rfl, ?_, by rw [e, nI_clamp h6], by omega⟩
  rw [e]
  intro hz
  rcases hz with hz | hz
  · exact nI_pos h6 hz
  · rw [nI_clamp h6] at hz
    omega
theorem xe_cons2 {b : Nat} {as : List Nat} {a c : xe_v} {l : List xe_v} {m : List Value} (h : xe_w b as (a :: c :: l) m) : ∃ (v u : Value) (m2 : List Value), m = v :: u :: m2 ∧ xe_g b as a v ∧ xe_g b as c u ∧ xe_w b as l m2 := by
  obtain ⟨v, m2, rfl, h1, h2⟩ := xe_w_cons h
  obtain ⟨u, m3, rfl, h3, h4⟩ := xe_w_cons h2
  exact ⟨v, u, m3, rfl, h1, h3, h4⟩
theorem xe_cat1 {b : Nat} {as : List Nat} {a : xe_v} {v : Value} (h : xe_g b as a v) (t : ¬ (a.1 == 1) = true) : v.category = 1 := by rw [xe_cat h, if_neg t]
theorem xe_cat2 {b : Nat} {as : List Nat} {a : xe_v} {v : Value} (h : xe_g b as a v) (t : (a.1 == 1) = true) : v.category = 2 := by rw [xe_cat h, if_pos t]
section XPUSH
variable {p : Program} {l : Launch} {e : Env} {R : Room} {s : State} {m : MethodId} {args : Array Value} {below : List Frame} {meth : Method} {c : Code} {H : Heap} {locs : List Loc} {cells slots : Nat} {Q : State → Prop}
variable {D : va_G} {E : Nat → ClassId} {A : Nat → Prop} {b : Nat} {as : List Nat} {ws : va_W} {σ : xe_h} {sc : List xe_v} {d μ : Nat}
set_option maxHeartbeats 4000000 in
theorem xe_get_ok {pc i x y z : Nat} {st st2 : List xe_v} {stc : List Value} {ls : Array Slot} (X : xe_X p R s m args meth c D E A b sc d μ) (hdg : decode (xm μ).2.1 pc = .ok (.getfield i, 3)) (hcw : xe_cw μ (.getfield i, 3, x, y, z) = true) (hR : xe_R E b as σ ws) (hP : va_P D xk_cl ws H) (hw : xe_w b as st stc) (h : xe_get x y st σ = some st2)
    (kk : ∀ st3, xe_w b as st2 st3 → W p l e R s m args below meth c H locs cells slots Q (F0 m (pc + 3) ls st3)) : W p l e R s m args below meth c H locs cells slots Q (F0 m pc ls stc) := by
  obtain ⟨⟨hx, hb, hml, hown, hret, hnm, hlk⟩, ⟨hts, hN, hAO, hK⟩, -, -⟩ := X
  unfold xe_get at h
  split at h
  · next a r =>
    obtain ⟨v, m2, rfl, hg, hm⟩ := xe_w_cons hw
    split at h
    · next t =>
      obtain ⟨qa, hq, rfl⟩ := xe_g3 t hg
      split at h
      · next cl hc =>
        obtain ⟨e1, he1, hr1⟩ := xe_R_at hR hq hc
        split at h
        · next t2 =>
          rw [Bool.and_eq_true] at t2
          obtain ⟨fs, rfl, hfs⟩ := xe_r0 t2.1 hr1
          have hx2 : cl.2.1 = x := by simpa using t2.2
          split at h
          · next v1 hv1 =>
            cases h
            obtain ⟨v2, hv2, hg2⟩ := xe_w_get hfs hv1
            unfold xe_cw at hcw
            dsimp only at hcw
            split at hcw
            · next r0 hr0 =>
              rw [Bool.and_eq_true] at hcw
              obtain ⟨C, T, N⟩ := r0
              obtain ⟨u1, u2, u3, u4, u5⟩ := xu_w hr0
              have hlink := hts _ (xt_mem (of_decide_eq_true hcw.2))
              rw [hx2] at he1
              exact va_get hx hb hts u1 hown hK hP a.2.1 he1 hr0 y (Nat.le_of_ble_eq_true hcw.1) hlink (fun _ h9 => h9) hv2 hdg (kk _ ⟨hg2, hm⟩)
            · cases hcw
          · cases h
        · cases h
      · cases h
    · cases h
  · cases h
set_option maxHeartbeats 4000000 in
theorem xe_alen_ok {pc : Nat} {st st2 : List xe_v} {stc : List Value} {ls : Array Slot} (X : xe_X p R s m args meth c D E A b sc d μ) (hdg : decode (xm μ).2.1 pc = .ok (.arraylength, 1)) (hR : xe_R E b as σ ws) (hP : va_P D xk_cl ws H) (hS : va_S A s.heap H locs) (hw : xe_w b as st stc) (h : xe_alen sc st σ = some st2)
    (kk : ∀ st3, xe_w b as st2 st3 → W p l e R s m args below meth c H locs cells slots Q (F0 m (pc + 1) ls st3)) : W p l e R s m args below meth c H locs cells slots Q (F0 m pc ls stc) := by
  obtain ⟨⟨hx, hb, hml, hown, hret, hnm, hlk⟩, ⟨hts, hN, hAO, hK⟩, -, hsc⟩ := X
  unfold xe_alen at h
  split at h
  · next a r =>
    obtain ⟨v, m2, rfl, hg, hm⟩ := xe_w_cons hw
    split at h
    · next t =>
      obtain ⟨qa, hq, rfl⟩ := xe_g3 t hg
      split at h
      · next cl hc =>
        obtain ⟨e1, he1, hr1⟩ := xe_R_at hR hq hc
        split at h
        · next t2 =>
          cases h
          rw [Bool.and_eq_true] at t2
          obtain ⟨t2, t3⟩ := t2
          have t3 := Nat.le_of_ble_eq_true t3
          have hlt : cl.2.1 < 2 ^ 31 := by omega
          have hv : xe_w b as (xe_n (2147483648 + cl.2.1) :: r) (.int (Int32.ofNat cl.2.1) :: m2) := ⟨⟨_, rfl, by rw [show Int32.ofNat cl.2.1 = nI cl.2.1 from rfl, xe_inI hlt]; exact Nat.le_refl _, by rw [show Int32.ofNat cl.2.1 = nI cl.2.1 from rfl, xe_inI hlt]; exact Nat.le_refl _⟩, hm⟩
          rw [Bool.or_eq_true, Bool.or_eq_true, Bool.or_eq_true] at t2
          rcases t2 with ((t2 | t2) | t2) | t2
          · obtain ⟨f, rfl, -⟩ := xe_r1 t2 hr1
            exact va_alen hx hb hK hP a.2.1 0 he1 (ty := .int) rfl rfl hdg (kk _ hv)
          · obtain ⟨f, rfl, -⟩ := xe_r2 t2 hr1
            exact va_alen hx hb hK hP a.2.1 1 he1 (ty := .byte) rfl rfl hdg (kk _ hv)
          · obtain ⟨f, rfl, -⟩ := xe_r3 t2 hr1
            exact va_alen hx hb hK hP a.2.1 2 he1 (ty := .long) rfl rfl hdg (kk _ hv)
          · obtain ⟨f, rfl, -⟩ := xe_r4 t2 hr1
            exact va_alen hx hb hK hP a.2.1 3 he1 (ty := .object "SlideNight$Slide") rfl rfl hdg (kk _ hv)
        · cases h
      · cases h
    · split at h
      · next t2 =>
        cases h
        rw [Bool.and_eq_true] at t2
        have e1 := xe_g4 t2.1 hg
        subst e1
        rcases hsc with rfl | ⟨xs, hX, hbl, hbA, hbx, hlt⟩
        · exact absurd t2.2 (by decide)
        · refine va_slen hx hb hX hbl hbA hS hdg (kk _ ⟨⟨_, rfl, ?_, ?_⟩, hm⟩)
          · rw [show Int32.ofNat sc.length = nI sc.length from rfl, xe_inI hlt]
            exact Nat.le_refl _
          · rw [show Int32.ofNat sc.length = nI sc.length from rfl, xe_inI hlt]
            exact Nat.le_refl _
      · cases h
  · cases h
set_option maxHeartbeats 4000000 in
/-- a place of a row: by its kind, what row of the kit reads it -/
theorem xe_ald_ok {pc k : Nat} {I : Jvm.ClassFile.Instr} {st st2 : List xe_v} {stc : List Value} {ls : Array Slot} (X : xe_X p R s m args meth c D E A b sc d μ) (hdg : decode (xm μ).2.1 pc = .ok (I, 1)) (hI : (k = 1 ∧ I = .iaload) ∨ (k = 2 ∧ I = .baload) ∨ (k = 3 ∧ I = .laload) ∨ (k = 4 ∧ I = .aaload)) (hR : xe_R E b as σ ws) (hP : va_P D xk_cl ws H) (hS : va_S A s.heap H locs) (hw : xe_w b as st stc) (h : xe_ald k sc st σ = some st2)
    (kk : ∀ st3, xe_w b as st2 st3 → W p l e R s m args below meth c H locs cells slots Q (F0 m (pc + 1) ls st3)) : W p l e R s m args below meth c H locs cells slots Q (F0 m pc ls stc) := by
  obtain ⟨⟨hx, hb, hml, hown, hret, hnm, hlk⟩, ⟨hts, hN, hAO, hK⟩, -, hsc⟩ := X
  unfold xe_ald at h
  split at h
  · next i a r =>
    obtain ⟨vi, v, m2, rfl, hgi, hg, hm⟩ := xe_cons2 hw
    split at h
    · next t =>
      obtain ⟨qa, hq, rfl⟩ := xe_g3 t hg
      split at h
      · next cl hc =>
        obtain ⟨e1, he1, hr1⟩ := xe_R_at hR hq hc
        split at h
        · next t2 =>
          rw [xe_f_eq] at h
          cases h
          rw [Bool.and_eq_true] at t2
          obtain ⟨t2, t3⟩ := t2
          obtain ⟨x, rfl, hin, hj, -⟩ := xe_ix_ok t3 hgi
          rcases hI with ⟨rfl, rfl⟩ | ⟨rfl, rfl⟩ | ⟨rfl, rfl⟩ | ⟨rfl, rfl⟩
          · obtain ⟨f, rfl, hf⟩ := xe_r1 t2 hr1
            exact va_iald hx hb hK hP a.2.1 0 he1 rfl hin hdg (kk _ ⟨by rw [hj]; exact hf _, hm⟩)
          · obtain ⟨f, rfl, hf⟩ := xe_r2 t2 hr1
            exact va_bald hx hb hK hP a.2.1 1 he1 rfl hin hdg (kk _ ⟨by rw [hj]; exact hf _, hm⟩)
          · obtain ⟨f, rfl, hf⟩ := xe_r3 t2 hr1
            exact va_lald hx hb hK hP a.2.1 2 he1 rfl hin hdg (kk _ ⟨by rw [hj]; exact hf _, hm⟩)
          · obtain ⟨f, rfl, hf⟩ := xe_r4 t2 hr1
            exact va_aldq hx hb hK hP a.2.1 3 (C := "SlideNight$Slide") he1 rfl hin hdg (kk _ ⟨by rw [hj]; exact hf _, hm⟩)
        · cases h
      · cases h
    · split at h
      · next t2 =>
        rw [Bool.and_eq_true, Bool.and_eq_true] at t2
        obtain ⟨⟨t2, t4⟩, t3⟩ := t2
        have e1 := xe_g4 t2 hg
        subst e1
        obtain ⟨x, rfl, hin, hj, hlt⟩ := xe_ix_ok t3 hgi
        have hk : k = 1 := by simpa using t4
        split at h
        · next v1 hv1 =>
          split at h
          · next t5 =>
            cases h
            rcases hsc with rfl | ⟨xs, hX, hbl, hbA, hbx, hlt⟩
            · simp at hlt
            · rcases hI with ⟨-, rfl⟩ | ⟨e, -⟩ | ⟨e, -⟩ | ⟨e, -⟩
              · refine va_sld hx hb hX hbl hbA hS hin hdg (kk _ ⟨?_, hm⟩)
                rw [hj]
                exact xe_g_m (fun r q z => by simp at z) (hbx _ _ hv1)
              · omega
              · omega
              · omega
          · cases h
        · cases h
      · cases h
  · cases h
theorem xe_sum8 {b : Nat} {as : List Nat} {st : List xe_v} {stc : List Value} (hw : xe_w b as st stc) (h : Nat.ble (xe_sum st) 8 = true) : (stc.map fun v => v.category).sum ≤ 8 := by
  rw [xe_w_sum hw]
  exact Nat.le_of_ble_eq_true h
set_option maxHeartbeats 8000000 in
theorem xe_push_ok {pc : Nat} {q : xe_I} {lv : List (Nat × xe_v)} {lc : List (Nat × Value)} {st st2 : List xe_v} {stc : List Value} {ls : Array Slot} (X : xe_X p R s m args meth c D E A b sc d μ) (hk : xe_chk μ q pc = true) (hR : xe_R E b as σ ws) (hP : va_P D xk_cl ws H) (hS : va_S A s.heap H locs) (hl : lv_has ls (xm μ).2.2.1 lc) (hp : xe_p b as lv lc) (hw : xe_w b as st stc) (hcs : cells ≤ R.cells ∧ slots ≤ R.slots)
    (h : xe_push d sc q.1 q.2.2.1 q.2.2.2.1 lv st σ = some st2)
    (kk : ∀ st3, xe_w b as st2 st3 → W p l e R s m args below meth c H locs cells slots Q (F0 m (pc + q.2.1) ls st3)) : W p l e R s m args below meth c H locs cells slots Q (F0 m pc ls stc) := by
  obtain ⟨I, len, x, y, z⟩ := q
  unfold xe_chk at hk
  dsimp only at h kk hk
  rw [Bool.and_eq_true, Bool.and_eq_true] at hk
  obtain ⟨⟨hlen, hdg0⟩, hcw⟩ := hk
  have hdg := of_decide_eq_true hdg0
  clear hdg0
  obtain ⟨⟨hx, hb, hml, hown, hret, hnm, hlk⟩, ⟨hts, hN, hAO, hK⟩, ⟨hA, hd1, hd2, hd3, hd4⟩, hsc⟩ := id X
  unfold xe_push xe_pf at h
  split at h <;> (try dsimp only at h)
  · have hlen : len = 1 := xe_l1 hlen rfl (by decide)
    subst hlen
    rw [xe_f_eq] at h
    cases h
    exact lv_iconst hx hb hdg rfl (kk _ ⟨xe_gi _, hw⟩)
  · have hlen : len = 2 := xe_l1 hlen rfl (by decide)
    subst hlen
    rw [xe_f_eq] at h
    cases h
    exact lv_bipush hx hb hdg rfl (kk _ ⟨xe_gi _, hw⟩)
  · have hlen : len = 3 := xe_l1 hlen rfl (by decide)
    subst hlen
    rw [xe_f_eq] at h
    cases h
    exact lv_sipush hx hb hdg rfl (kk _ ⟨xe_gi _, hw⟩)
  · have hlen : len = 1 := xe_l1 hlen rfl (by decide)
    subst hlen
    rw [xe_f_eq] at h
    cases h
    exact lv_lconst hx hb hdg rfl (kk _ ⟨xe_gl _, hw⟩)
  · have hlen : len = 2 := xe_l1 hlen rfl (by decide)
    subst hlen
    split at h
    · cases h
    next hx1 =>
    cases h
    unfold xe_cw at hcw
    dsimp only at hcw
    rw [if_neg hx1, Bool.and_eq_true] at hcw
    have h1 := Nat.le_of_ble_eq_true hcw.1
    refine lv_ldc hx hb hown (hts _ (xt_mem (of_decide_eq_true hcw.2))) hdg (kk _ ⟨?_, hw⟩)
    exact ⟨_, rfl, by rw [xe_ij (by omega)]; exact Nat.le_refl _, by rw [xe_ij (by omega)]; exact Nat.le_refl _⟩
  · have hlen : len = 3 := xe_l1 hlen rfl (by decide)
    subst hlen
    split at h
    · cases h
    next hx1 =>
    cases h
    unfold xe_cw at hcw
    dsimp only at hcw
    rw [if_neg hx1, Bool.and_eq_true] at hcw
    have h1 := Nat.le_of_ble_eq_true hcw.1
    refine lv_ldcw hx hb hown (hts _ (xt_mem (of_decide_eq_true hcw.2))) hdg (kk _ ⟨?_, hw⟩)
    exact ⟨_, rfl, by rw [xe_ij (by omega)]; exact Nat.le_refl _, by rw [xe_ij (by omega)]; exact Nat.le_refl _⟩
  · have hlen : len = 3 := xe_l1 hlen rfl (by decide)
    subst hlen
    cases h
    unfold xe_cw at hcw
    dsimp only at hcw
    rw [Bool.and_eq_true] at hcw
    have h1 := Nat.le_of_ble_eq_true hcw.1
    refine lv_ldc2 hx hb hown (hts _ (xt_mem (of_decide_eq_true hcw.2))) hdg (kk _ ⟨?_, hw⟩)
    exact ⟨_, rfl, by rw [xe_lk (by omega)]; exact Nat.le_refl _, by rw [xe_lk (by omega)]; exact Nat.le_refl _⟩
  · have hlen : len = 1 := xe_l1 hlen rfl (by decide)
    subst hlen
    cases h
    exact lv_null hx hb hdg (kk _ ⟨rfl, hw⟩)
  · have hlen : len = 2 := xe_l1 hlen rfl (by decide)
    subst hlen
    obtain ⟨k, v, a, h1, h2, h3, rfl⟩ := xe_ld_ok hp h
    obtain ⟨x0, rfl, -, -⟩ := xe_g0 h3 h2
    exact lv_iload hx hb hdg (lv_at hl k h1) (kk _ ⟨h2, hw⟩)
  · have hlen : len = 1 := xe_l1 hlen rfl (by decide)
    subst hlen
    obtain ⟨k, v, a, h1, h2, h3, rfl⟩ := xe_ld_ok hp h
    obtain ⟨x0, rfl, -, -⟩ := xe_g0 h3 h2
    exact lv_iload_n hx hb hdg rfl (lv_at hl k h1) (kk _ ⟨h2, hw⟩)
  · have hlen : len = 2 := xe_l1 hlen rfl (by decide)
    subst hlen
    obtain ⟨k, v, a, h1, h2, h3, rfl⟩ := xe_ld_ok hp h
    obtain ⟨x0, rfl, -, -⟩ := xe_g1 h3 h2
    exact lv_lload hx hb hdg (lv_at hl k h1) (kk _ ⟨h2, hw⟩)
  · have hlen : len = 1 := xe_l1 hlen rfl (by decide)
    subst hlen
    obtain ⟨k, v, a, h1, h2, h3, rfl⟩ := xe_ld_ok hp h
    obtain ⟨x0, rfl, -, -⟩ := xe_g1 h3 h2
    exact lv_lload_n hx hb hdg rfl (lv_at hl k h1) (kk _ ⟨h2, hw⟩)
  · have hlen : len = 2 := xe_l1 hlen rfl (by decide)
    subst hlen
    obtain ⟨k, v, a, h1, h2, h3, rfl⟩ := xe_la_ok hp h
    rcases h3 with rfl | ⟨q, rfl⟩
    · exact lv_aloadN hx hb hdg (lv_at hl k h1) (kk _ ⟨h2, hw⟩)
    · exact lv_aload hx hb hdg (lv_at hl k h1) (kk _ ⟨h2, hw⟩)
  · have hlen : len = 1 := xe_l1 hlen rfl (by decide)
    subst hlen
    obtain ⟨k, v, a, h1, h2, h3, rfl⟩ := xe_la_ok hp h
    rcases h3 with rfl | ⟨q, rfl⟩
    · exact lv_aload_nN hx hb hdg rfl (lv_at hl k h1) (kk _ ⟨h2, hw⟩)
    · exact lv_aload_n hx hb hdg rfl (lv_at hl k h1) (kk _ ⟨h2, hw⟩)
  · have hlen : len = 1 := xe_l1 hlen rfl (by decide)
    subst hlen
    exact xe_u2_ok (P1 := fun z => W p l e R s m args below meth c H locs cells slots Q (F0 m pc ls z)) (P2 := fun z => W p l e R s m args below meth c H locs cells slots Q (F0 m (pc + 1) ls z)) h hw (fun x y rest k => lv_iadd hx hb hdg k) kk
  · have hlen : len = 1 := xe_l1 hlen rfl (by decide)
    subst hlen
    exact xe_u2_ok (P1 := fun z => W p l e R s m args below meth c H locs cells slots Q (F0 m pc ls z)) (P2 := fun z => W p l e R s m args below meth c H locs cells slots Q (F0 m (pc + 1) ls z)) h hw (fun x y rest k => lv_isub hx hb hdg k) kk
  · have hlen : len = 1 := xe_l1 hlen rfl (by decide)
    subst hlen
    exact xe_u2_ok (P1 := fun z => W p l e R s m args below meth c H locs cells slots Q (F0 m pc ls z)) (P2 := fun z => W p l e R s m args below meth c H locs cells slots Q (F0 m (pc + 1) ls z)) h hw (fun x y rest k => lv_imul hx hb hdg k) kk
  · have hlen : len = 1 := xe_l1 hlen rfl (by decide)
    subst hlen
    exact xe_d2_ok (P1 := fun z => W p l e R s m args below meth c H locs cells slots Q (F0 m pc ls z)) (P2 := fun z => W p l e R s m args below meth c H locs cells slots Q (F0 m (pc + 1) ls z)) h hw (fun x y rest hne k => lv_idiv hx hb hdg hne k) kk
  · have hlen : len = 1 := xe_l1 hlen rfl (by decide)
    subst hlen
    exact xe_d2_ok (P1 := fun z => W p l e R s m args below meth c H locs cells slots Q (F0 m pc ls z)) (P2 := fun z => W p l e R s m args below meth c H locs cells slots Q (F0 m (pc + 1) ls z)) h hw (fun x y rest hne k => lv_irem hx hb hdg hne k) kk
  · have hlen : len = 1 := xe_l1 hlen rfl (by decide)
    subst hlen
    exact xe_u1_ok (P1 := fun z => W p l e R s m args below meth c H locs cells slots Q (F0 m pc ls z)) (P2 := fun z => W p l e R s m args below meth c H locs cells slots Q (F0 m (pc + 1) ls z)) (xe_top _) h hw (fun x rest k => lv_ineg hx hb hdg k) kk
  · have hlen : len = 1 := xe_l1 hlen rfl (by decide)
    subst hlen
    exact xe_u2_ok (P1 := fun z => W p l e R s m args below meth c H locs cells slots Q (F0 m pc ls z)) (P2 := fun z => W p l e R s m args below meth c H locs cells slots Q (F0 m (pc + 1) ls z)) h hw (fun x y rest k => lv_iand hx hb hdg k) kk
  · have hlen : len = 1 := xe_l1 hlen rfl (by decide)
    subst hlen
    exact xe_u2_ok (P1 := fun z => W p l e R s m args below meth c H locs cells slots Q (F0 m pc ls z)) (P2 := fun z => W p l e R s m args below meth c H locs cells slots Q (F0 m (pc + 1) ls z)) h hw (fun x y rest k => lv_ior hx hb hdg k) kk
  · have hlen : len = 1 := xe_l1 hlen rfl (by decide)
    subst hlen
    exact xe_u2_ok (P1 := fun z => W p l e R s m args below meth c H locs cells slots Q (F0 m pc ls z)) (P2 := fun z => W p l e R s m args below meth c H locs cells slots Q (F0 m (pc + 1) ls z)) h hw (fun x y rest k => lv_ixor hx hb hdg k) kk
  · have hlen : len = 1 := xe_l1 hlen rfl (by decide)
    subst hlen
    exact xe_u2_ok (P1 := fun z => W p l e R s m args below meth c H locs cells slots Q (F0 m pc ls z)) (P2 := fun z => W p l e R s m args below meth c H locs cells slots Q (F0 m (pc + 1) ls z)) h hw (fun x y rest k => lv_ishl hx hb hdg k) kk
  · have hlen : len = 1 := xe_l1 hlen rfl (by decide)
    subst hlen
    exact xe_u2_ok (P1 := fun z => W p l e R s m args below meth c H locs cells slots Q (F0 m pc ls z)) (P2 := fun z => W p l e R s m args below meth c H locs cells slots Q (F0 m (pc + 1) ls z)) h hw (fun x y rest k => lv_ishr hx hb hdg k) kk
  · have hlen : len = 1 := xe_l1 hlen rfl (by decide)
    subst hlen
    exact xe_u2_ok (P1 := fun z => W p l e R s m args below meth c H locs cells slots Q (F0 m pc ls z)) (P2 := fun z => W p l e R s m args below meth c H locs cells slots Q (F0 m (pc + 1) ls z)) h hw (fun x y rest k => lv_iushr hx hb hdg rfl k) kk
  · have hlen : len = 1 := xe_l1 hlen rfl (by decide)
    subst hlen
    exact xe_m2_ok (P1 := fun z => W p l e R s m args below meth c H locs cells slots Q (F0 m pc ls z)) (P2 := fun z => W p l e R s m args below meth c H locs cells slots Q (F0 m (pc + 1) ls z)) h hw (fun x y rest k => lv_ladd hx hb hdg k) kk
  · have hlen : len = 1 := xe_l1 hlen rfl (by decide)
    subst hlen
    exact xe_m2_ok (P1 := fun z => W p l e R s m args below meth c H locs cells slots Q (F0 m pc ls z)) (P2 := fun z => W p l e R s m args below meth c H locs cells slots Q (F0 m (pc + 1) ls z)) h hw (fun x y rest k => lv_lsub hx hb hdg k) kk
  · have hlen : len = 1 := xe_l1 hlen rfl (by decide)
    subst hlen
    exact xe_m2_ok (P1 := fun z => W p l e R s m args below meth c H locs cells slots Q (F0 m pc ls z)) (P2 := fun z => W p l e R s m args below meth c H locs cells slots Q (F0 m (pc + 1) ls z)) h hw (fun x y rest k => lv_lmul hx hb hdg k) kk
  · have hlen : len = 1 := xe_l1 hlen rfl (by decide)
    subst hlen
    exact xe_e2_ok (P1 := fun z => W p l e R s m args below meth c H locs cells slots Q (F0 m pc ls z)) (P2 := fun z => W p l e R s m args below meth c H locs cells slots Q (F0 m (pc + 1) ls z)) h hw (fun x y rest hne k => lv_ldiv hx hb hdg hne k) kk
  · have hlen : len = 1 := xe_l1 hlen rfl (by decide)
    subst hlen
    exact xe_e2_ok (P1 := fun z => W p l e R s m args below meth c H locs cells slots Q (F0 m pc ls z)) (P2 := fun z => W p l e R s m args below meth c H locs cells slots Q (F0 m (pc + 1) ls z)) h hw (fun x y rest hne k => lv_lrem hx hb hdg hne k) kk
  · have hlen : len = 1 := xe_l1 hlen rfl (by decide)
    subst hlen
    exact xe_m1_ok (P1 := fun z => W p l e R s m args below meth c H locs cells slots Q (F0 m pc ls z)) (P2 := fun z => W p l e R s m args below meth c H locs cells slots Q (F0 m (pc + 1) ls z)) h hw (fun x rest k => lv_lneg hx hb hdg k) kk
  · have hlen : len = 1 := xe_l1 hlen rfl (by decide)
    subst hlen
    exact xe_lli_ok (P1 := fun z => W p l e R s m args below meth c H locs cells slots Q (F0 m pc ls z)) (P2 := fun z => W p l e R s m args below meth c H locs cells slots Q (F0 m (pc + 1) ls z)) h hw (fun x y rest k => W.lcmp hx hb hdg k) kk
  · have hlen : len = 1 := xe_l1 hlen rfl (by decide)
    subst hlen
    exact xe_il_ok (P1 := fun z => W p l e R s m args below meth c H locs cells slots Q (F0 m pc ls z)) (P2 := fun z => W p l e R s m args below meth c H locs cells slots Q (F0 m (pc + 1) ls z)) h hw (fun x rest k => lv_i2l hx hb hdg rfl k) kk
  · have hlen : len = 1 := xe_l1 hlen rfl (by decide)
    subst hlen
    exact xe_li_ok (P1 := fun z => W p l e R s m args below meth c H locs cells slots Q (F0 m pc ls z)) (P2 := fun z => W p l e R s m args below meth c H locs cells slots Q (F0 m (pc + 1) ls z)) h hw (fun x rest k => lv_l2i hx hb hdg rfl k) kk
  · have hlen : len = 1 := xe_l1 hlen rfl (by decide)
    subst hlen
    exact xe_u1_ok (P1 := fun z => W p l e R s m args below meth c H locs cells slots Q (F0 m pc ls z)) (P2 := fun z => W p l e R s m args below meth c H locs cells slots Q (F0 m (pc + 1) ls z)) xe_byte h hw (fun x rest k => lv_i2b hx hb hdg rfl k) kk
  · have hlen : len = 1 := xe_l1 hlen rfl (by decide)
    subst hlen
    exact xe_u1_ok (P1 := fun z => W p l e R s m args below meth c H locs cells slots Q (F0 m pc ls z)) (P2 := fun z => W p l e R s m args below meth c H locs cells slots Q (F0 m (pc + 1) ls z)) (xe_top _) h hw (fun x rest k => lv_i2c hx hb hdg rfl k) kk
  · have hlen : len = 1 := xe_l1 hlen rfl (by decide)
    subst hlen
    split at h
    · next a r =>
      obtain ⟨v, m2, rfl, hg, hm⟩ := xe_w_cons hw
      split at h
      · cases h
      · next t =>
        cases h
        exact lv_dup hx hb hdg (xe_cat1 hg t) (kk _ ⟨hg, hg, hm⟩)
    · cases h
  · have hlen : len = 1 := xe_l1 hlen rfl (by decide)
    subst hlen
    split at h
    · next a r =>
      obtain ⟨v, m2, rfl, hg, hm⟩ := xe_w_cons hw
      split at h
      · next t =>
        cases h
        exact lv_dup2_2 hx hb hdg (xe_cat2 hg t) (kk _ ⟨hg, hg, hm⟩)
      · next t =>
        split at h
        · next b2 r2 =>
          obtain ⟨v2, m3, rfl, hg2, hm2⟩ := xe_w_cons hm
          split at h
          · cases h
          · next t2 =>
            cases h
            exact lv_dup2_11 hx hb hdg (xe_cat1 hg t) (xe_cat1 hg2 t2) (kk _ ⟨hg, hg2, hg, hg2, hm2⟩)
        · cases h
    · cases h
  · have hlen : len = 1 := xe_l1 hlen rfl (by decide)
    subst hlen
    split at h
    · next a r =>
      obtain ⟨v, m2, rfl, hg, hm⟩ := xe_w_cons hw
      split at h
      · cases h
      · next t =>
        cases h
        exact lv_pop hx hb hdg (xe_cat1 hg t) (kk _ hm)
    · cases h
  · have hlen : len = 3 := xe_l1 hlen rfl (by decide)
    subst hlen
    exact xe_get_ok X hdg hcw hR hP hw h kk
  · have hlen : len = 1 := xe_l1 hlen rfl (by decide)
    subst hlen
    exact xe_alen_ok X hdg hR hP hS hw h kk
  · have hlen : len = 1 := xe_l1 hlen rfl (by decide)
    subst hlen
    exact xe_ald_ok X hdg (Or.inl ⟨rfl, rfl⟩) hR hP hS hw h kk
  · have hlen : len = 1 := xe_l1 hlen rfl (by decide)
    subst hlen
    exact xe_ald_ok X hdg (Or.inr (Or.inl ⟨rfl, rfl⟩)) hR hP hS hw h kk
  · have hlen : len = 1 := xe_l1 hlen rfl (by decide)
    subst hlen
    exact xe_ald_ok X hdg (Or.inr (Or.inr (Or.inl ⟨rfl, rfl⟩))) hR hP hS hw h kk
  · have hlen : len = 1 := xe_l1 hlen rfl (by decide)
    subst hlen
    exact xe_ald_ok X hdg (Or.inr (Or.inr (Or.inr ⟨rfl, rfl⟩))) hR hP hS hw h kk
  · have hlen : len = 3 := xe_l1 hlen rfl (by decide)
    subst hlen
    split at h
    · next t =>
      rw [Bool.and_eq_true] at t
      have t1 := Nat.le_of_ble_eq_true t.1
      have hs8 := xe_sum8 hw t.2
      unfold xe_cw at hcw
      dsimp only at hcw
      have hml2 : c.maxLocals = ls.size := hml.trans hl.1.symm
      split at h
      · next t2 =>
        have e : x = 2 := by simpa using t2
        subst e
        have hlink := hts _ (xt_mem (of_decide_eq_true hcw))
        refine xe_u2_ok (P1 := fun stc => (stc.map fun v => v.category).sum ≤ 8 → W p l e R s m args below meth c H locs cells slots Q (F0 m pc ls stc)) (P2 := fun z => W p l e R s m args below meth c H locs cells slots Q (F0 m (pc + 3) ls z)) h hw (fun x y rest k h8 => va_mmax hx hb hml2 hown hlink (hts _ xw_max.1) (hts _ xw_math.1) (hts _ xw_max.2) (by omega) ?_ hcs.1 hcs.2 hdg k) kk hs8
        simp only [List.map_cons, List.sum_cons] at h8
        omega
      · split at h
        · next t2 =>
          have e : x = 3 := by simpa using t2
          subst e
          have hlink := hts _ (xt_mem (of_decide_eq_true hcw))
          refine xe_u2_ok (P1 := fun stc => (stc.map fun v => v.category).sum ≤ 8 → W p l e R s m args below meth c H locs cells slots Q (F0 m pc ls stc)) (P2 := fun z => W p l e R s m args below meth c H locs cells slots Q (F0 m (pc + 3) ls z)) h hw (fun x y rest k h8 => va_mmin hx hb hml2 hown hlink (hts _ xw_min.1) (hts _ xw_math.1) (hts _ xw_min.2) (by omega) ?_ hcs.1 hcs.2 hdg k) kk hs8
          simp only [List.map_cons, List.sum_cons] at h8
          omega
        · split at h
          · next t2 =>
            have e : x = 4 := by simpa using t2
            subst e
            have hlink := hts _ (xt_mem (of_decide_eq_true hcw))
            refine xe_m1_ok (P1 := fun stc => (stc.map fun v => v.category).sum ≤ 8 → W p l e R s m args below meth c H locs cells slots Q (F0 m pc ls stc)) (P2 := fun z => W p l e R s m args below meth c H locs cells slots Q (F0 m (pc + 3) ls z)) h hw (fun x rest k h8 => va_mabs_long hx hb hml2 hown hlink (hts _ xw_abs.1) (hts _ xw_math.1) (hts _ xw_abs.2) (by omega) ?_ hcs.1 hcs.2 hdg k) kk hs8
            simp only [List.map_cons, List.sum_cons] at h8
            omega
          · cases h
    · cases h
  · have hlen : len = 3 := xe_l1 hlen rfl (by decide)
    subst hlen
    split at h
    · next t =>
      rw [Bool.and_eq_true, Bool.and_eq_true] at t
      have t1 := Nat.le_of_ble_eq_true t.1.1
      have hs8 := xe_sum8 hw t.2
      have e : x = 1 := by simpa using t.1.2
      subst e
      unfold xe_cw at hcw
      dsimp only at hcw
      have hlink := hts _ (xt_mem (of_decide_eq_true hcw))
      split at h
      · next a r =>
        obtain ⟨v, m2, rfl, hg, hm⟩ := xe_w_cons hw
        split at h
        · next t3 =>
          cases h
          obtain ⟨qa, hq, rfl⟩ := xe_g3 t3 hg
          have h8 : (m2.map fun v => v.category).sum ≤ 8 := by
            simp only [List.map_cons, List.sum_cons] at hs8
            omega
          refine W.objInit hx hb hown hlink (hts _ xw_obj.1) (hts _ xw_obj.2) rfl (hl.1.trans hml.symm) rfl hdg (by omega) (Nat.le_trans (Nat.add_le_add_right (lv_room h8) 12) (by omega)) ?_
          exact W.eq (g2 := F0 m (pc + 3) ls m2) rfl (kk _ hm)
        · cases h
      · cases h
    · cases h
  · cases h
end XPUSH
