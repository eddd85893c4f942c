theorem pcal_s {ly : List (Nat × Nat)} {i x y : Nat} {st : List pv} (h : (x = 0 ∨ x = 1) ∧ (xm y).2.2.2.2.2.2.2 = 0 ∧ (xm y).2.2.2.2.2.1 ≤ st.length) : px_cal ly (.invokestatic i) x y st = some ((st.take (xm y).2.2.2.2.2.1).reverse, st.drop (xm y).2.2.2.2.2.1) := if_pos h
theorem m_L_cons {lv : List (Nat × pv)} {s : eSL} {ss : List eSL} {xs : List Int} (h : m_L lv (s :: ss) xs) : ∃ x ys, xs = x :: ys ∧ (∃ v, px_lg lv s.1 = some v ∧ m_V v s.2.1 s.2.2 x) ∧ m_L lv ss ys := by
  cases xs with
  | nil => exact h.elim
  | cons x ys => exact ⟨x, ys, rfl, h.1, h.2⟩
theorem m_L_nil {lv : List (Nat × pv)} {xs : List Int} (h : m_L lv [] xs) : xs = [] := by
  cases xs with
  | nil => rfl
  | cons x ys => exact h.elim
theorem m_F_nil {h0 : pH} {xs : List Int} (h : m_F h0 [] xs) : xs = [] := by
  cases xs with
  | nil => rfl
  | cons x ys => exact h.elim
theorem ct_1 {v : pv} (h : ct v = 1) : ∃ x, v = pvL x := by
  rcases v with x | x | x
  · cases h
  · exact ⟨x, rfl⟩
  · cases h
theorem ct_0 {v : pv} (h : ct v = 0) : ∃ x, v = .inl x := by
  rcases v with x | x | x
  · exact ⟨x, rfl⟩
  · cases h
  · cases h
theorem th_0 {i : Nat} {vs : List pv} {v : pv} (h : px_lg (px_ar i vs) i = some v) : ∃ r, vs = v :: r := by
  cases vs with
  | nil => cases h
  | cons w r =>
    have h : (if (i == i) then some w else px_lg (px_ar (if pc2 w then i + 2 else i + 1) r) i) = some v := h
    rw [if_pos (beq_self_eq_true i)] at h
    cases h
    exact ⟨r, rfl⟩
theorem th_vs {vs : List pv} {v0 v1 v2 : pv} (h0 : px_lg (px_ar 0 vs) 0 = some v0) (c0 : ct v0 = 1) (h1 : px_lg (px_ar 0 vs) 2 = some v1) (c1 : ct v1 = 1) (h2 : px_lg (px_ar 0 vs) 4 = some v2) (c2 : ct v2 = 0) : ∃ (a b : Int64) (i : Int32) (r : List pv), v0 = pvL a ∧ v1 = pvL b ∧ v2 = .inl i ∧ px_ar 0 vs = (0, pvL a) :: (2, pvL b) :: (4, .inl i) :: px_ar 5 r := by
  obtain ⟨r, rfl⟩ := th_0 h0
  obtain ⟨a, rfl⟩ := ct_1 c0
  have h1 : px_lg (px_ar 2 r) 2 = some v1 := h1
  have h2 : px_lg (px_ar 2 r) 4 = some v2 := h2
  obtain ⟨r, rfl⟩ := th_0 h1
  obtain ⟨b, rfl⟩ := ct_1 c1
  have h2 : px_lg (px_ar 4 r) 4 = some v2 := h2
  obtain ⟨r, rfl⟩ := th_0 h2
  obtain ⟨i, rfl⟩ := ct_0 c2
  exact ⟨a, b, i, r, rfl, rfl, rfl, rfl⟩
set_option maxHeartbeats 2000000 in
theorem th_run {d : Nat} {h : pH} {a b : Int64} {i : Int32} {T : List (Nat × pv)} {P : Option pv × pH → Prop} (hd : 1 ≤ d) (hb : b ≠ 0) (hP : ∀ z : Int64, z ≠ 0 → (0 ≤ a.toInt → 0 ≤ b.toInt → 0 < z.toInt ∧ z.toInt ≤ b.toInt) → P (some (pvL (if i = 0 then a / z else b / z)), h)) : t_X d 262 0 ((0, pvL a) :: (2, pvL b) :: (4, .inl i) :: T) [] h P := by
  refine t_0 qt_0 rfl rfl ?_
  refine t_0 qt_1 rfl rfl ?_
  refine t_3 qt_2 rfl (ar := ([pvL a, pvL b], [])) (pcal_s ⟨Or.inl rfl, rfl, Nat.le_of_ble_eq_true rfl⟩) ⟨hd, Nat.le_of_ble_eq_true rfl, Nat.le_of_ble_eq_true rfl, rfl⟩ ?_
  obtain ⟨n, ⟨o1, o2⟩, g1, g2, z, g3, g4, g5⟩ := gcd_run (d := d - 1) (h := h) (a := a) hb
  refine ⟨n, (o1, o2), g1, ?_⟩
  dsimp only at g2 g3
  subst g2 g3
  have hQ := hP z g4 g5
  show t_X d 262 5 ((0, pvL a) :: (2, pvL b) :: (4, .inl i) :: T) [pvL z] o2 P
  by_cases hi : i = 0
  · rw [if_pos hi] at hQ
    refine t_2 qt_5 rfl rfl ?_
    refine t_0 qt_7 rfl rfl ?_
    refine t_1 qt_9 rfl (pb_ne_f (pc := 9) (by decide) hi) ?_
    refine t_0 qt_12 rfl rfl ?_
    refine t_0 qt_13 rfl rfl ?_
    refine t_0 qt_15 rfl (if_neg g4) ?_
    refine t_1 qt_16 rfl (pb_goto (pc := 16) (by decide)) ?_
    refine t_5 qt_23 rfl rfl ?_
    exact hQ
  · rw [if_neg hi] at hQ
    refine t_2 qt_5 rfl rfl ?_
    refine t_0 qt_7 rfl rfl ?_
    refine t_1 qt_9 rfl (pb_ne_t (pc := 9) (by decide) hi) ?_
    refine t_0 qt_19 rfl rfl ?_
    refine t_0 qt_20 rfl rfl ?_
    refine t_0 qt_22 rfl (if_neg g4) ?_
    refine t_5 qt_23 rfl rfl ?_
    exact hQ
theorem div_le {a z : Int64} (ha : 0 ≤ a.toInt) (hz : 0 < z.toInt) : 0 ≤ (a / z).toInt ∧ (a / z).toInt ≤ a.toInt := by
  rw [Jvm.Kit.i64_div (fun q => by omega), Int.tdiv_eq_ediv_of_nonneg ha]
  exact ⟨Int.ediv_nonneg ha (by omega), Int.ediv_le_self _ ha⟩
theorem div_ge1 {b z : Int64} (hz : 0 < z.toInt) (hb : z.toInt ≤ b.toInt) : 1 ≤ (b / z).toInt := by
  rw [Jvm.Kit.i64_div (fun q => by omega), Int.tdiv_eq_ediv_of_nonneg (by omega)]
  exact (Int.le_ediv_iff_mul_le hz).mpr (by omega)
theorem i64_ne0 {b : Int64} (h : 1 ≤ b.toInt) : b ≠ 0 := fun z => by
  rw [z] at h
  exact absurd h (by decide)
theorem ev_2 {d x0 x1 x2 x : Int} : ev_t (d :: ([x0, x1, x2] ++ []) ++ [x]) (0, [(4, 1), (1, (-1))]) (x - x0) := ⟨1 * x + (-1 * x0 + 0), rfl, by omega⟩
theorem ev_3 {d x0 x1 x2 x : Int} : ev_t (d :: ([x0, x1, x2] ++ []) ++ [x]) (0, [(4, 1), (2, (-1))]) (x - x1) := ⟨1 * x + (-1 * x1 + 0), rfl, by omega⟩
/-- what the contracts of through ask, taken apart -/
theorem th_pre {d : Nat} {vs : List pv} {h : pH} {xs ys : List Int} {e0 e1 e2 : eE} (hM : m_M (4, [(0, 1, e0), (2, 1, e1), (4, 0, e2)], [], []) d (px_ar 0 vs) h xs ys) : ∃ (a b : Int64) (i : Int32) (r : List pv), px_ar 0 vs = (0, pvL a) :: (2, pvL b) :: (4, .inl i) :: px_ar 5 r ∧ 4 ≤ d ∧ xs = [a.toInt, b.toInt, i.toInt] ∧ ys = [] ∧ ok_v a.toInt e0 ∧ ok_v b.toInt e1 ∧ ok_v i.toInt e2 := by
  obtain ⟨hd4, hL, hF, -⟩ := hM
  have e9 := m_F_nil hF
  subst e9
  obtain ⟨x0, ys0, rfl, ⟨v0, a1, a2, a3, a4⟩, hL⟩ := m_L_cons hL
  obtain ⟨x1, ys1, rfl, ⟨v1, b1, b2, b3, b4⟩, hL⟩ := m_L_cons hL
  obtain ⟨x2, ys2, rfl, ⟨v2, c1, c2, c3, c4⟩, hL⟩ := m_L_cons hL
  have e9 := m_L_nil hL
  subst e9
  obtain ⟨a, b, i, r, rfl, rfl, rfl, e⟩ := th_vs a1 a2 b1 b2 c1 c2
  subst a3 b3 c3
  exact ⟨a, b, i, r, e, hd4, rfl, rfl, a4, b4, c4⟩
theorem h_182 {X : pH → Prop} (d : Nat) : k_S eG X kk_182 d := by
  intro vs h xs ys m hG hX hM _ _ _
  obtain ⟨a, b, i, r, e, hd, rfl, rfl, ha, hb, hi⟩ := th_pre hM
  have ei : i = 0 := Int32.toInt_inj.mp (by
    have h1 : 0 ≤ i.toInt := hi.1
    have h2 : i.toInt ≤ 0 := hi.2.1
    show i.toInt = 0
    omega)
  obtain ⟨n, o, g1, g2⟩ := th_run (P := fun o => o.2 = h ∧ ∃ z : Int64, o.1 = some (pvL z) ∧ 0 ≤ z.toInt ∧ z.toInt ≤ a.toInt) (d := d) (h := h) (a := a) (b := b) (i := i) (T := px_ar 5 r) (by omega) (i64_ne0 hb.1) (fun z hz h2 => by
    have h3 := h2 ha.1 (by have := hb.1; dsimp only at this; omega)
    refine ⟨rfl, a / z, by rw [if_pos ei], ?_⟩
    exact div_le ha.1 h3.1)
  rw [← e] at g1
  obtain ⟨g3, z, g4, g5, g6⟩ := g2
  refine ⟨n, o, g1, by rw [g3]; exact hG, by rw [g3]; exact hX, by rw [g3]; exact f_M_rf _ _, _, List.mem_cons_self .., [z.toInt], ⟨pvL z, z.toInt, [], g4, ⟨rfl, rfl, g5, ?_, Or.inl rfl⟩, rfl, trivial⟩, fun c hc => ?_⟩
  · have := ha.2.1
    exact Int.le_trans g6 this
  · have hc := List.mem_singleton.mp hc
    subst hc
    exact ⟨_, ev_2, by omega⟩
theorem h_183 {X : pH → Prop} (d : Nat) : k_S eG X kk_183 d := by
  intro vs h xs ys m hG hX hM _ _ _
  obtain ⟨a, b, i, r, e, hd, rfl, rfl, ha, hb, hi⟩ := th_pre hM
  have ei : i ≠ 0 := fun z => by
    have h1 := hi.1
    rw [z] at h1
    exact absurd h1 (by decide)
  obtain ⟨n, o, g1, g2⟩ := th_run (P := fun o => o.2 = h ∧ ∃ z : Int64, o.1 = some (pvL z) ∧ 1 ≤ z.toInt ∧ z.toInt ≤ b.toInt) (d := d) (h := h) (a := a) (b := b) (i := i) (T := px_ar 5 r) (by omega) (i64_ne0 hb.1) (fun z hz h2 => by
    have hb1 : 0 ≤ b.toInt := by have := hb.1; dsimp only at this; omega
    have h3 := h2 ha.1 hb1
    refine ⟨rfl, b / z, by rw [if_neg ei], ?_⟩
    exact ⟨div_ge1 h3.1 h3.2, (div_le hb1 h3.1).2⟩)
  rw [← e] at g1
  obtain ⟨g3, z, g4, g5, g6⟩ := g2
  refine ⟨n, o, g1, by rw [g3]; exact hG, by rw [g3]; exact hX, by rw [g3]; exact f_M_rf _ _, _, List.mem_cons_self .., [z.toInt], ⟨pvL z, z.toInt, [], g4, ⟨rfl, rfl, g5, ?_, Or.inl rfl⟩, rfl, trivial⟩, fun c hc => ?_⟩
  · have := hb.2.1
    exact Int.le_trans g6 this
  · have hc := List.mem_singleton.mp hc
    subst hc
    exact ⟨_, ev_3, by omega⟩
theorem i64_lo (z : Int64) : -9223372036854775808 ≤ z.toInt := by have := z.le_toInt; omega
theorem i64_hi (z : Int64) : z.toInt ≤ 9223372036854775807 := by have := z.toInt_lt; omega
theorem h_184 {X : pH → Prop} (d : Nat) : k_S eG X kk_184 d := by
  intro vs h xs ys m hG hX hM _ _ _
  obtain ⟨a, b, i, r, e, hd, rfl, rfl, ha, hb, hi⟩ := th_pre hM
  obtain ⟨n, o, g1, g2⟩ := th_run (P := fun o => o.2 = h ∧ ∃ z : Int64, o.1 = some (pvL z)) (d := d) (h := h) (a := a) (b := b) (i := i) (T := px_ar 5 r) (by omega) (i64_ne0 hb.1) (fun z hz h2 => ⟨rfl, _, rfl⟩)
  rw [← e] at g1
  obtain ⟨g3, z, g4⟩ := g2
  exact ⟨n, o, g1, by rw [g3]; exact hG, by rw [g3]; exact hX, by rw [g3]; exact f_M_rf _ _, _, List.mem_cons_self .., [z.toInt], ⟨pvL z, z.toInt, [], g4, ⟨rfl, rfl, i64_lo z, i64_hi z, Or.inl rfl⟩, rfl, trivial⟩, fun c hc => by cases hc⟩

