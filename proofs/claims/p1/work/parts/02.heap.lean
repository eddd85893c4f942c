/-! cells of the reckoner: (0, which class, its fields), (1 ints, 2 bytes, 3 longs, 4 addresses; how many; what stands where nothing else is noted; what is noted) -/
def xe_ag : List (Nat × xe_v) → xe_v → Nat → xe_v
  | [], d, _ => d
  | q :: o, d, k => if q.1 == k then q.2 else xe_ag o d k
def xe_at : List (Nat × xe_v) → Nat → xe_v → List (Nat × xe_v)
  | [], k, v => [(k, v)]
  | q :: o, k, v => if q.1 == k then (k, v) :: o else q :: xe_at o k v
theorem xe_ag_at (d : xe_v) (k : Nat) (v : xe_v) (j : Nat) : ∀ o : List (Nat × xe_v), xe_ag (xe_at o k v) d j = if j = k then v else xe_ag o d j
  | [] => by
    show (if k == j then v else d) = if j = k then v else d
    by_cases h : j = k
    · subst h; simp
    · rw [if_neg h, if_neg (by simpa using fun z => h z.symm)]
  | q :: o => by
    by_cases hq : q.1 = k
    · have e : xe_at (q :: o) k v = (k, v) :: o := by simp [xe_at, hq]
      rw [e]
      show (if k == j then v else xe_ag o d j) = if j = k then v else (if q.1 == j then q.2 else xe_ag o d j)
      by_cases h : j = k
      · subst h; simp
      · rw [if_neg h, if_neg (by simpa using fun z => h z.symm), if_neg (by rw [hq]; simpa using fun z => h z.symm)]
    · have e : xe_at (q :: o) k v = q :: xe_at o k v := by simp [xe_at, hq]
      rw [e]
      show (if q.1 == j then q.2 else xe_ag (xe_at o k v) d j) = if j = k then v else (if q.1 == j then q.2 else xe_ag o d j)
      rw [xe_ag_at d k v j o]
      by_cases h : j = k
      · subst h
        rw [if_pos rfl, if_neg (by simpa using hq), if_pos rfl]
      · rw [if_neg h, if_neg h]
def xe_aw (o : List (Nat × xe_v)) (d : xe_v) (k : Nat) (v : xe_v) : List (Nat × xe_v) := if xe_ag o d k = v then o else xe_at o k v
theorem xe_ag_aw (o : List (Nat × xe_v)) (d : xe_v) (k : Nat) (v : xe_v) (j : Nat) : xe_ag (xe_aw o d k v) d j = if j = k then v else xe_ag o d j := by
  unfold xe_aw
  split
  · next h =>
    by_cases e : j = k
    · subst e; rw [if_pos rfl, h]
    · rw [if_neg e]
  · exact xe_ag_at d k v j o
/-- n of one row to another -/
def xe_ac (o2 : List (Nat × xe_v)) (d2 : xe_v) (sp dp : Nat) : Nat → List (Nat × xe_v) → xe_v → List (Nat × xe_v)
  | 0, o, _ => o
  | n + 1, o, d => xe_aw (xe_ac o2 d2 sp dp n o d) d (dp + n) (xe_ag o2 d2 (sp + n))
theorem xe_ag_ac (o2 : List (Nat × xe_v)) (d2 : xe_v) (sp dp : Nat) (o : List (Nat × xe_v)) (d : xe_v) (j : Nat) : ∀ n : Nat, xe_ag (xe_ac o2 d2 sp dp n o d) d j = if dp ≤ j ∧ j < dp + n then xe_ag o2 d2 (sp + (j - dp)) else xe_ag o d j
  | 0 => by rw [if_neg (by omega)]; rfl
  | n + 1 => by
    show xe_ag (xe_aw (xe_ac o2 d2 sp dp n o d) d (dp + n) (xe_ag o2 d2 (sp + n))) d j = _
    rw [xe_ag_aw, xe_ag_ac o2 d2 sp dp o d j n]
    by_cases h : j = dp + n
    · subst h
      rw [if_pos rfl, if_pos (by omega), Nat.add_sub_cancel_left]
    · rw [if_neg h]
      by_cases h2 : dp ≤ j ∧ j < dp + n
      · rw [if_pos h2, if_pos (by omega)]
      · rw [if_neg h2, if_neg (by omega)]
def xe_r (E : Nat → ClassId) (b : Nat) (as : List Nat) (c : xe_c) (e : va_E) : Prop := match c.1 with
  | 0 => ∃ fs : List Value, e = .inr (c.2.1, fs) ∧ xe_w b as c.2.2.1 fs
  | 1 => ∃ f : Nat → Int32, e = .inl (E 0, c.2.1, .inl f) ∧ ∀ k, xe_g b as (xe_ag c.2.2.2.2 c.2.2.2.1 k) (.int (f k))
  | 2 => ∃ f : Nat → Int32, e = .inl (E 1, c.2.1, .inl f) ∧ ∀ k, xe_g b as (xe_ag c.2.2.2.2 c.2.2.2.1 k) (.int (f k))
  | 3 => ∃ f : Nat → Int64, e = .inl (E 2, c.2.1, .inr (.inl f)) ∧ ∀ k, xe_g b as (xe_ag c.2.2.2.2 c.2.2.2.1 k) (.long (f k))
  | 4 => ∃ f : Nat → Option Nat, e = .inl (E 3, c.2.1, .inr (.inr (.inr (.inr f)))) ∧ ∀ k, xe_g b as (xe_ag c.2.2.2.2 c.2.2.2.1 k) (va_rf (f k))
  | _ => False
theorem xe_r_m {E : Nat → ClassId} {b : Nat} {as as2 : List Nat} (hm : xe_m as as2) {c : xe_c} {e : va_E} (h : xe_r E b as c e) : xe_r E b as2 c e := by
  unfold xe_r at h ⊢
  split <;> simp_all only []
  · obtain ⟨fs, h1, h2⟩ := h
    exact ⟨fs, h1, xe_w_m hm h2⟩
  · obtain ⟨f, h1, h2⟩ := h
    exact ⟨f, h1, fun k => xe_g_m hm (h2 k)⟩
  · obtain ⟨f, h1, h2⟩ := h
    exact ⟨f, h1, fun k => xe_g_m hm (h2 k)⟩
  · obtain ⟨f, h1, h2⟩ := h
    exact ⟨f, h1, fun k => xe_g_m hm (h2 k)⟩
  · obtain ⟨f, h1, h2⟩ := h
    exact ⟨f, h1, fun k => xe_g_m hm (h2 k)⟩
def xe_R (E : Nat → ClassId) (b : Nat) (as : List Nat) (σ : List xe_c) (ws : va_W) : Prop := ws.map (fun q => q.1) = as ∧ ws.length = σ.length ∧ ∀ (k : Nat) (c : xe_c), σ[k]? = some c → ∃ (q : Nat) (e : va_E), ws[k]? = some (q, e) ∧ xe_r E b as c e
theorem xe_R_at {E : Nat → ClassId} {b : Nat} {as : List Nat} {σ : List xe_c} {ws : va_W} (h : xe_R E b as σ ws) {r q : Nat} {c : xe_c} (hr : as[r]? = some q) (hc : σ[r]? = some c) : ∃ e : va_E, ws[r]? = some (q, e) ∧ xe_r E b as c e := by
  obtain ⟨q2, e, h1, h2⟩ := h.2.2 r c hc
  rw [← h.1, List.getElem?_map, h1] at hr
  cases hr
  exact ⟨e, h1, h2⟩
theorem xe_R_set {E : Nat → ClassId} {b : Nat} {as : List Nat} {σ : List xe_c} {ws : va_W} (h : xe_R E b as σ ws) {r q : Nat} {e0 e : va_E} {c : xe_c} (hw : ws[r]? = some (q, e0)) (hr : xe_r E b as c e) : xe_R E b as (σ.set r c) (ws.set r (q, e)) := by
  refine ⟨?_, by rw [List.length_set, List.length_set]; exact h.2.1, fun k c2 hk => ?_⟩
  · rw [List.map_set, ← h.1]
    have h1 : (ws.map (fun q => q.1))[r]? = some q := by rw [List.getElem?_map, hw]; rfl
    obtain ⟨h2, h3⟩ := List.getElem?_eq_some_iff.mp h1
    have h4 := List.set_getElem_self h2
    rw [h3] at h4
    exact h4
  · by_cases e : r = k
    · subst e
      have hl : r < ws.length := (List.getElem?_eq_some_iff.mp hw).1
      rw [List.getElem?_set_self (by rw [← h.2.1]; exact hl)] at hk
      cases hk
      exact ⟨q, _, by rw [List.getElem?_set_self hl], hr⟩
    · rw [List.getElem?_set_ne e] at hk
      obtain ⟨q2, e2, h1, h2⟩ := h.2.2 k c2 hk
      exact ⟨q2, e2, by rw [List.getElem?_set_ne e]; exact h1, h2⟩
theorem xe_R_push {E : Nat → ClassId} {b : Nat} {as : List Nat} {σ : List xe_c} {ws : va_W} (h : xe_R E b as σ ws) (q : Nat) {e : va_E} {c : xe_c} (hr : xe_r E b (as ++ [q]) c e) : xe_R E b (as ++ [q]) (σ ++ [c]) (ws ++ [(q, e)]) := by
  refine ⟨by rw [List.map_append, h.1]; rfl, by rw [List.length_append, List.length_append, h.2.1]; rfl, fun k c2 hk => ?_⟩
  rcases Nat.lt_or_ge k σ.length with hl | hl
  · rw [List.getElem?_append_left hl] at hk
    obtain ⟨q2, e2, h1, h2⟩ := h.2.2 k c2 hk
    exact ⟨q2, e2, by rw [List.getElem?_append_left (by rw [h.2.1]; exact hl)]; exact h1, xe_r_m (xe_m_app _ _) h2⟩
  · rw [List.getElem?_append_right hl] at hk
    rcases Nat.eq_or_lt_of_le hl with z | z
    · subst z
      rw [Nat.sub_self] at hk
      cases hk
      refine ⟨q, e, ?_, hr⟩
      rw [List.getElem?_append_right (by rw [h.2.1]; exact Nat.le_refl _), h.2.1, Nat.sub_self]
      rfl
    · have : k - σ.length = (k - σ.length - 1) + 1 := by omega
      rw [this] at hk
      simp at hk
theorem xe_R_len {E : Nat → ClassId} {b : Nat} {as : List Nat} {σ : List xe_c} {ws : va_W} (h : xe_R E b as σ ws) : as.length = σ.length := by rw [← h.1, List.length_map, h.2.1]
theorem xe_R_new {E : Nat → ClassId} {b : Nat} {as : List Nat} {σ : List xe_c} {ws : va_W} (h : xe_R E b as σ ws) (q : Nat) : (as ++ [q])[σ.length]? = some q := by
  rw [List.getElem?_append_right (by rw [xe_R_len h]; exact Nat.le_refl _), xe_R_len h, Nat.sub_self]
  rfl
/-- the kinds of cells, one at a time -/
theorem xe_r0 {E : Nat → ClassId} {b : Nat} {as : List Nat} {c : xe_c} {e : va_E} (t : (c.1 == 0) = true) (h : xe_r E b as c e) : ∃ fs : List Value, e = .inr (c.2.1, fs) ∧ xe_w b as c.2.2.1 fs := by
  have z : c.1 = 0 := by simpa using t
  unfold xe_r at h
  rw [z] at h
  exact h
theorem xe_r1 {E : Nat → ClassId} {b : Nat} {as : List Nat} {c : xe_c} {e : va_E} (t : (c.1 == 1) = true) (h : xe_r E b as c e) : ∃ f : Nat → Int32, e = .inl (E 0, c.2.1, .inl f) ∧ ∀ k, xe_g b as (xe_ag c.2.2.2.2 c.2.2.2.1 k) (.int (f k)) := by
  have z : c.1 = 1 := by simpa using t
  unfold xe_r at h
  rw [z] at h
  exact h
theorem xe_r2 {E : Nat → ClassId} {b : Nat} {as : List Nat} {c : xe_c} {e : va_E} (t : (c.1 == 2) = true) (h : xe_r E b as c e) : ∃ f : Nat → Int32, e = .inl (E 1, c.2.1, .inl f) ∧ ∀ k, xe_g b as (xe_ag c.2.2.2.2 c.2.2.2.1 k) (.int (f k)) := by
  have z : c.1 = 2 := by simpa using t
  unfold xe_r at h
  rw [z] at h
  exact h
theorem xe_r3 {E : Nat → ClassId} {b : Nat} {as : List Nat} {c : xe_c} {e : va_E} (t : (c.1 == 3) = true) (h : xe_r E b as c e) : ∃ f : Nat → Int64, e = .inl (E 2, c.2.1, .inr (.inl f)) ∧ ∀ k, xe_g b as (xe_ag c.2.2.2.2 c.2.2.2.1 k) (.long (f k)) := by
  have z : c.1 = 3 := by simpa using t
  unfold xe_r at h
  rw [z] at h
  exact h
theorem xe_r4 {E : Nat → ClassId} {b : Nat} {as : List Nat} {c : xe_c} {e : va_E} (t : (c.1 == 4) = true) (h : xe_r E b as c e) : ∃ f : Nat → Option Nat, e = .inl (E 3, c.2.1, .inr (.inr (.inr (.inr f)))) ∧ ∀ k, xe_g b as (xe_ag c.2.2.2.2 c.2.2.2.1 k) (va_rf (f k)) := by
  have z : c.1 = 4 := by simpa using t
  unfold xe_r at h
  rw [z] at h
  exact h
/-- no place of the world is taken for another -/
def xe_tys (E : Nat → ClassId) : List (ClassId × FieldType) := [(E 0, .int), (E 1, .byte), (E 2, .long), (E 3, .object "SlideNight$Slide")]
