/-! cells of the reckoner: (0, which class, its fields), (1 ints, 2 bytes, 3 longs, 4 addresses; how many; what stands where nothing else is noted; what is noted) -/
def xe_ag : List (Nat × xe_v) → xe_v → Nat → xe_v
  | [], d, _ => d
  | q :: o, d, k => if q.1 == k then q.2 else xe_ag o d k
def xe_at : List (Nat × xe_v) → Nat → xe_v → List (Nat × xe_v)
  | [], k, v => [(k, v)]
  | q :: o, k, v => if q.1 == k then (k, v) :: o else q :: xe_at o k v
theorem xe_ag_at (d : xe_v) (k : Nat) (v : xe_v) (j : Nat) : ∀ o : List (Nat × xe_v), xe_ag (xe_at o k v) d j = if j = k then v else xe_ag o d j
  | [] => by
    show (if k == j then v else d) = if j = k then v else d
    by_cases h : j = k
    · subst h; simp
    · rw [if_neg h, if_neg (by simpa using fun z => h z.symm)]
  | q :: o => by
    by_cases hq : q.1 = k
    · have e : xe_at (q :: o) k v = (k, v) :: o := by simp [xe_at, hq]
      rw [e]
      show (if k == j then v else xe_ag o d j) = if j = k then v else (if q.1 == j then q.2 else xe_ag o d j)
      by_cases h : j = k
      · subst h; simp
      · rw [if_neg h, if_neg (by simpa using fun z => h z.symm), if_neg (by rw [hq]; simpa using fun z => h z.symm)]
    · have e : xe_at (q :: o) k v = q :: xe_at o k v := by simp [xe_at, hq]
      rw [e]
      show (if q.1 == j then q.2 else xe_ag (xe_at o k v) d j) = if j = k then v else (if q.1 == j then q.2 else xe_ag o d j)
      rw [xe_ag_at d k v j o]
      by_cases h : j = k
      · subst h
        rw [if_pos rfl, if_neg (by simpa using hq), if_pos rfl]
      · rw [if_neg h, if_neg h]
def xe_aw (o : List (Nat × xe_v)) (d : xe_v) (k : Nat) (v : xe_v) : List (Nat × xe_v) := if xe_ag o d k = v then o else xe_at o k v
theorem xe_ag_aw (o : List (Nat × xe_v)) (d : xe_v) (k : Nat) (v : xe_v) (j : Nat) : xe_ag (xe_aw o d k v) d j = if j = k then v else xe_ag o d j := by
  unfold xe_aw
  split
  · next h =>
    by_cases e : j = k
    · subst e; rw [if_pos rfl, h]
    · rw [if_neg e]
  · exact xe_ag_at d k v j o
/-- n of one row to another -/
def xe_ac (o2 : List (Nat × xe_v)) (d2 : xe_v) (sp dp : Nat) : Nat → List (Nat × xe_v) → xe_v → List (Nat × xe_v)
  | 0, o, _ => o
  | n + 1, o, d => xe_aw (xe_ac o2 d2 sp dp n o d) d (dp + n) (xe_ag o2 d2 (sp + n))
theorem xe_ag_ac (o2 : List (Nat × xe_v)) (d2 : xe_v) (sp dp : Nat) (o : List (Nat × xe_v)) (d : xe_v) (j : Nat) : ∀ n : Nat, xe_ag (xe_ac o2 d2 sp dp n o d) d j = if dp ≤ j ∧ j < dp + n then xe_ag o2 d2 (sp + (j - dp)) else xe_ag o d j
  | 0 => by rw [if_neg (by omega)]; rfl
  | n + 1 => by
    show xe_ag (xe_aw (xe_ac o2 d2 sp dp n o d) d (dp + n) (xe_ag o2 d2 (sp + n))) d j = _
    rw [xe_ag_aw, xe_ag_ac o2 d2 sp dp o d j n]
    by_cases h : j = dp + n
    · subst h
      rw [if_pos rfl, if_pos (by omega), Nat.add_sub_cancel_left]
    · rw [if_neg h]
      by_cases h2 : dp ≤ j ∧ j < dp + n
      · rw [if_pos h2, if_pos (by omega)]
      · rw [if_neg h2, if_neg (by omega)]
def xe_r (E : Nat → ClassId) (b : Nat) (as : List Nat) (c : xe_c) (e : va_E) : Prop := match c.1 with
  | 0 => ∃ fs : List Value, e = .inr (c.2.1, fs) ∧ xe_w b as c.2.2.1 fs
  | 1 => ∃ f : Nat → Int32, e = .inl (E 0, c.2.1, .inl f) ∧ ∀ k, xe_g b as (xe_ag c.2.2.2.2 c.2.2.2.1 k) (.int (f k))
  | 2 => ∃ f : Nat → Int32, e = .inl (E 1, c.2.1, .inl f) ∧ ∀ k, xe_g b as (xe_ag c.2.2.2.2 c.2.2.2.1 k) (.int (f k))
  | 3 => ∃ f : Nat → Int64, e = .inl (E 2, c.2.1, .inr (.inl f)) ∧ ∀ k, xe_g b as (xe_ag c.2.2.2.2 c.2.2.2.1 k) (.long (f k))
  | 4 => ∃ f : Nat → Option Nat, e = .inl (E 3, c.2.1, .inr (.inr (.inr (.inr f)))) ∧ ∀ k, xe_g b as (xe_ag c.2.2.2.2 c.2.2.2.1 k) (va_rf (f k))
  | _ => False
theorem xe_r_m {E : Nat → ClassId} {b : Nat} {as as2 : List Nat} (hm : xe_m as as2) {c : xe_c} {e : va_E} (h : xe_r E b as c e) : xe_r E b as2 c e := by
  unfold xe_r at h ⊢
  split <;> simp_all only []
  · obtain ⟨fs, h1, h2⟩ := h
    exact ⟨fs, h1, xe_w_m hm h2⟩
  · obtain ⟨f, h1, h2⟩ := h
    exact ⟨f, h1, fun k => xe_g_m hm (h2 k)⟩
  · obtain ⟨f, h1, h2⟩ := h
    exact ⟨f, h1, fun k => xe_g_m hm (h2 k)⟩
  · obtain ⟨f, h1, h2⟩ := h
    exact ⟨f, h1, fun k => xe_g_m hm (h2 k)⟩
  · obtain ⟨f, h1, h2⟩ := h
    exact ⟨f, h1, fun k => xe_g_m hm (h2 k)⟩
/-! a world as a tree of 512 places, by the low bit first -/
def xt_t (α : Type) : Nat → Type
  | 0 => α
  | n + 1 => xt_t α n × xt_t α n
def xt_f {α : Type} (a : α) : (n : Nat) → xt_t α n
  | 0 => a
  | n + 1 => (xt_f a n, xt_f a n)
def xt_g {α : Type} : (n : Nat) → xt_t α n → Nat → α
  | 0, a, _ => a
  | n + 1, t, i => match i % 2 with
    | 0 => xt_g n t.1 (i / 2)
    | _ => xt_g n t.2 (i / 2)
def xt_s {α : Type} : (n : Nat) → xt_t α n → Nat → α → xt_t α n
  | 0, _, _, c => c
  | n + 1, t, i, c => match i % 2 with
    | 0 => (xt_s n t.1 (i / 2) c, t.2)
    | _ => (t.1, xt_s n t.2 (i / 2) c)
theorem xt_sA {α : Type} {n : Nat} (a b : xt_t α n) {i : Nat} (c : α) (h : i % 2 = 0) : xt_s (n + 1) (a, b) i c = (xt_s n a (i / 2) c, b) := by
  show (match i % 2 with
    | 0 => (xt_s n a (i / 2) c, b)
    | _ => (a, xt_s n b (i / 2) c)) = _
  rw [h]
  rfl
theorem xt_sB {α : Type} {n : Nat} (a b : xt_t α n) {i : Nat} (c : α) (h : i % 2 = 1) : xt_s (n + 1) (a, b) i c = (a, xt_s n b (i / 2) c) := by
  show (match i % 2 with
    | 0 => (xt_s n a (i / 2) c, b)
    | _ => (a, xt_s n b (i / 2) c)) = _
  rw [h]
  rfl
theorem xt_gA {α : Type} {n : Nat} (a b : xt_t α n) {i : Nat} (h : i % 2 = 0) : xt_g (n + 1) (a, b) i = xt_g n a (i / 2) := by
  show (match i % 2 with
    | 0 => xt_g n a (i / 2)
    | _ => xt_g n b (i / 2)) = _
  rw [h]
  rfl
theorem xt_gB {α : Type} {n : Nat} (a b : xt_t α n) {i : Nat} (h : i % 2 = 1) : xt_g (n + 1) (a, b) i = xt_g n b (i / 2) := by
  show (match i % 2 with
    | 0 => xt_g n a (i / 2)
    | _ => xt_g n b (i / 2)) = _
  rw [h]
  rfl
theorem xt_gs {α : Type} (c : α) : ∀ (n : Nat) (t : xt_t α n) (i j : Nat), i < 2 ^ n → j < 2 ^ n → xt_g n (xt_s n t i c) j = if i = j then c else xt_g n t j
  | 0, t, i, j, hi, hj => by
    have : i = j := by omega
    rw [if_pos this]
    rfl
  | n + 1, (t1, t2), i, j, hi, hj => by
    have hi2 : i / 2 < 2 ^ n := by rw [Nat.pow_succ] at hi; omega
    have hj2 : j / 2 < 2 ^ n := by rw [Nat.pow_succ] at hj; omega
    rcases Nat.mod_two_eq_zero_or_one i with a | a <;> rcases Nat.mod_two_eq_zero_or_one j with b | b
    · rw [xt_sA t1 t2 c a, xt_gA _ _ b, xt_gA _ _ b, xt_gs c n t1 _ _ hi2 hj2]
      by_cases e : i / 2 = j / 2
      · rw [if_pos e, if_pos (by omega)]
      · rw [if_neg e, if_neg (by omega)]
    · rw [xt_sA t1 t2 c a, xt_gB _ _ b, xt_gB _ _ b, if_neg (by omega)]
    · rw [xt_sB t1 t2 c a, xt_gA _ _ b, xt_gA _ _ b, if_neg (by omega)]
    · rw [xt_sB t1 t2 c a, xt_gB _ _ b, xt_gB _ _ b, xt_gs c n t2 _ _ hi2 hj2]
      by_cases e : i / 2 = j / 2
      · rw [if_pos e, if_pos (by omega)]
      · rw [if_neg e, if_neg (by omega)]
def xt_k {α β : Type} : (n : Nat) → xt_t α n → Nat → α → (xt_t α n → β) → β
  | 0, _, _, c, k => k c
  | n + 1, t, i, c, k => match (show xt_t α n × xt_t α n from t) with
    | (a, b) => match i % 2 with
      | 0 => xt_k n a (i / 2) c (fun a2 => k (a2, b))
      | _ => xt_k n b (i / 2) c (fun b2 => k (a, b2))
theorem xt_k_eq {α β : Type} (c : α) : ∀ (n : Nat) (t : xt_t α n) (i : Nat) (k : xt_t α n → β), xt_k n t i c k = k (xt_s n t i c)
  | 0, t, i, k => rfl
  | n + 1, (a, b), i, k => by
    show (match i % 2 with
      | 0 => xt_k n a (i / 2) c (fun a2 => k (a2, b))
      | _ => xt_k n b (i / 2) c (fun b2 => k (a, b2))) = _
    rcases Nat.mod_two_eq_zero_or_one i with z | z
    · rw [xt_sA a b c z, z]
      exact xt_k_eq c n a _ _
    · rw [xt_sB a b c z, z]
      exact xt_k_eq c n b _ _
abbrev xe_h : Type := Nat × xt_t xe_c 9
def xh_0 : xe_h := (0, xt_f (9, 0, [], (2, 0, 0), []) 9)
def xh_g (σ : xe_h) (r : Nat) : Option xe_c := match Nat.ble (r + 1) σ.1 with
  | true => some (xt_g 9 σ.2 r)
  | false => none
def xh_s (σ : xe_h) (r : Nat) (c : xe_c) : xe_h := (σ.1, xt_s 9 σ.2 r c)
def xh_p (σ : xe_h) (c : xe_c) : xe_h := (σ.1 + 1, xt_s 9 σ.2 σ.1 c)
def xh_k {β : Type} (σ : xe_h) (r : Nat) (c : xe_c) (k : xe_h → β) : β := xt_k 9 σ.2 r c (fun t => k (σ.1, t))
theorem xh_k_eq {β : Type} (σ : xe_h) (r : Nat) (c : xe_c) (k : xe_h → β) : xh_k σ r c k = k (xh_s σ r c) := xt_k_eq c 9 σ.2 r _
def xh_q {β : Type} (σ : xe_h) (c : xe_c) (k : xe_h → β) : β := xe_f (σ.1 + 1) (fun n => xt_k 9 σ.2 σ.1 c (fun t => k (n, t)))
theorem xh_q_eq {β : Type} (σ : xe_h) (c : xe_c) (k : xe_h → β) : xh_q σ c k = k (xh_p σ c) := (xe_f_eq _ _).trans (xt_k_eq c 9 σ.2 σ.1 _)
theorem xh_lt {σ : xe_h} {r : Nat} {c : xe_c} (h : xh_g σ r = some c) : r < σ.1 ∧ xt_g 9 σ.2 r = c := by
  unfold xh_g at h
  split at h
  · next u =>
    cases h
    exact ⟨Nat.le_of_ble_eq_true u, rfl⟩
  · cases h
def xe_R (E : Nat → ClassId) (b : Nat) (as : List Nat) (σ : xe_h) (ws : va_W) : Prop := ws.map (fun q => q.1) = as ∧ ws.length = σ.1 ∧ σ.1 ≤ 512 ∧ ∀ (k : Nat) (c : xe_c), xh_g σ k = some c → ∃ (q : Nat) (e : va_E), ws[k]? = some (q, e) ∧ xe_r E b as c e
theorem xe_R_at {E : Nat → ClassId} {b : Nat} {as : List Nat} {σ : xe_h} {ws : va_W} (h : xe_R E b as σ ws) {r q : Nat} {c : xe_c} (hr : as[r]? = some q) (hc : xh_g σ r = some c) : ∃ e : va_E, ws[r]? = some (q, e) ∧ xe_r E b as c e := by
  obtain ⟨q2, e, h1, h2⟩ := h.2.2.2 r c hc
  rw [← h.1, List.getElem?_map, h1] at hr
  cases hr
  exact ⟨e, h1, h2⟩
theorem xe_R_set {E : Nat → ClassId} {b : Nat} {as : List Nat} {σ : xe_h} {ws : va_W} (h : xe_R E b as σ ws) {r q : Nat} {e0 e : va_E} {c : xe_c} (hw : ws[r]? = some (q, e0)) (hr : xe_r E b as c e) : xe_R E b as (xh_s σ r c) (ws.set r (q, e)) := by
  have hl : r < ws.length := (List.getElem?_eq_some_iff.mp hw).1
  refine ⟨?_, by rw [List.length_set]; exact h.2.1, h.2.2.1, fun k c2 hk => ?_⟩
  · rw [List.map_set, ← h.1]
    have h1 : (ws.map (fun q => q.1))[r]? = some q := by rw [List.getElem?_map, hw]; rfl
    obtain ⟨h2, h3⟩ := List.getElem?_eq_some_iff.mp h1
    have h4 := List.set_getElem_self h2
    rw [h3] at h4
    exact h4
  · obtain ⟨k1, k2⟩ := xh_lt hk
    have k1 : k < σ.1 := k1
    have h5 := h.2.1
    have h6 := h.2.2.1
    have k2 : xt_g 9 (xt_s 9 σ.2 r c) k = c2 := k2
    rw [xt_gs c 9 σ.2 r k (by omega) (by omega)] at k2
    by_cases e : r = k
    · subst e
      rw [if_pos rfl] at k2
      subst k2
      exact ⟨q, _, by rw [List.getElem?_set_self hl], hr⟩
    · rw [if_neg e] at k2
      have hg : xh_g σ k = some c2 := by
        unfold xh_g
        rw [show Nat.ble (k + 1) σ.1 = true from Nat.ble_eq_true_of_le k1]
        dsimp only
        rw [k2]
      obtain ⟨q2, e2, h1, h2⟩ := h.2.2.2 k c2 hg
      exact ⟨q2, e2, by rw [List.getElem?_set_ne e]; exact h1, h2⟩
theorem xe_R_push {E : Nat → ClassId} {b : Nat} {as : List Nat} {σ : xe_h} {ws : va_W} (h : xe_R E b as σ ws) (hs : σ.1 < 512) (q : Nat) {e : va_E} {c : xe_c} (hr : xe_r E b (as ++ [q]) c e) : xe_R E b (as ++ [q]) (xh_p σ c) (ws ++ [(q, e)]) := by
  refine ⟨by rw [List.map_append, h.1]; rfl, by rw [List.length_append, h.2.1]; rfl, hs, fun k c2 hk => ?_⟩
  obtain ⟨k1, k2⟩ := xh_lt hk
  have k1 : k < σ.1 + 1 := k1
  have k2 : xt_g 9 (xt_s 9 σ.2 σ.1 c) k = c2 := k2
  rw [xt_gs c 9 σ.2 σ.1 k (by omega) (by omega)] at k2
  by_cases z : σ.1 = k
  · rw [if_pos z] at k2
    subst k2
    refine ⟨q, e, ?_, hr⟩
    rw [List.getElem?_append_right (by rw [h.2.1]; omega), h.2.1, z, Nat.sub_self]
    rfl
  · rw [if_neg z] at k2
    have hg : xh_g σ k = some c2 := by
      unfold xh_g
      rw [show Nat.ble (k + 1) σ.1 = true from Nat.ble_eq_true_of_le (by omega)]
      dsimp only
      rw [k2]
    obtain ⟨q2, e2, h1, h2⟩ := h.2.2.2 k c2 hg
    exact ⟨q2, e2, by rw [List.getElem?_append_left (by rw [h.2.1]; omega)]; exact h1, xe_r_m (xe_m_app _ _) h2⟩
theorem xe_R_len {E : Nat → ClassId} {b : Nat} {as : List Nat} {σ : xe_h} {ws : va_W} (h : xe_R E b as σ ws) : as.length = σ.1 := by rw [← h.1, List.length_map, h.2.1]
theorem xe_R_new {E : Nat → ClassId} {b : Nat} {as : List Nat} {σ : xe_h} {ws : va_W} (h : xe_R E b as σ ws) (q : Nat) : (as ++ [q])[σ.1]? = some q := by
  rw [List.getElem?_append_right (by rw [xe_R_len h]; exact Nat.le_refl _), xe_R_len h, Nat.sub_self]
  rfl
/-- the kinds of cells, one at a time -/
theorem xe_r0 {E : Nat → ClassId} {b : Nat} {as : List Nat} {c : xe_c} {e : va_E} (t : (c.1 == 0) = true) (h : xe_r E b as c e) : ∃ fs : List Value, e = .inr (c.2.1, fs) ∧ xe_w b as c.2.2.1 fs := by
  have z : c.1 = 0 := by simpa using t
  unfold xe_r at h
  rw [z] at h
  exact h
theorem xe_r1 {E : Nat → ClassId} {b : Nat} {as : List Nat} {c : xe_c} {e : va_E} (t : (c.1 == 1) = true) (h : xe_r E b as c e) : ∃ f : Nat → Int32, e = .inl (E 0, c.2.1, .inl f) ∧ ∀ k, xe_g b as (xe_ag c.2.2.2.2 c.2.2.2.1 k) (.int (f k)) := by
  have z : c.1 = 1 := by simpa using t
  unfold xe_r at h
  rw [z] at h
  exact h
theorem xe_r2 {E : Nat → ClassId} {b : Nat} {as : List Nat} {c : xe_c} {e : va_E} (t : (c.1 == 2) = true) (h : xe_r E b as c e) : ∃ f : Nat → Int32, e = .inl (E 1, c.2.1, .inl f) ∧ ∀ k, xe_g b as (xe_ag c.2.2.2.2 c.2.2.2.1 k) (.int (f k)) := by
  have z : c.1 = 2 := by simpa using t
  unfold xe_r at h
  rw [z] at h
  exact h
theorem xe_r3 {E : Nat → ClassId} {b : Nat} {as : List Nat} {c : xe_c} {e : va_E} (t : (c.1 == 3) = true) (h : xe_r E b as c e) : ∃ f : Nat → Int64, e = .inl (E 2, c.2.1, .inr (.inl f)) ∧ ∀ k, xe_g b as (xe_ag c.2.2.2.2 c.2.2.2.1 k) (.long (f k)) := by
  have z : c.1 = 3 := by simpa using t
  unfold xe_r at h
  rw [z] at h
  exact h
theorem xe_r4 {E : Nat → ClassId} {b : Nat} {as : List Nat} {c : xe_c} {e : va_E} (t : (c.1 == 4) = true) (h : xe_r E b as c e) : ∃ f : Nat → Option Nat, e = .inl (E 3, c.2.1, .inr (.inr (.inr (.inr f)))) ∧ ∀ k, xe_g b as (xe_ag c.2.2.2.2 c.2.2.2.1 k) (va_rf (f k)) := by
  have z : c.1 = 4 := by simpa using t
  unfold xe_r at h
  rw [z] at h
  exact h
/-- no place of the world is taken for another -/
def xe_tys (E : Nat → ClassId) : List (ClassId × FieldType) := [(E 0, .int), (E 1, .byte), (E 2, .long), (E 3, .object "SlideNight$Slide")]
