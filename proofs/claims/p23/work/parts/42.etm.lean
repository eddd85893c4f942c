/-! the reckoner with bounds: templates of states, contracts, calls -/
abbrev eSL : Type := Nat × Nat × eE
abbrev eSF : Type := Nat × Nat × Nat × eE
abbrev eM : Type := Nat × List eSL × List eSF × List eT
abbrev eP : Type := Option (Nat × eE) × List eSF × List eT
abbrev eK : Type := Nat × eM × eT × Nat × List eP
def m_V (v : pv) (n : Nat) (e : eE) (x : Int) : Prop := ct v = n ∧ cv v = x ∧ ok_v x e
def m_L (lv : List (Nat × pv)) : List eSL → List Int → Prop
  | [], [] => True
  | s :: ss, x :: xs => (∃ v, px_lg lv s.1 = some v ∧ m_V v s.2.1 s.2.2 x) ∧ m_L lv ss xs
  | _, _ => False
def m_F (h : pH) : List eSF → List Int → Prop
  | [], [] => True
  | s :: ss, x :: xs => (∃ v, h_c h s.1 s.2.1 0 = some v ∧ m_V v s.2.2.1 s.2.2.2 x) ∧ m_F h ss xs
  | _, _ => False
/-- symbols: 0 the depth; then the places, then the fields -/
def m_M (tm : eM) (d : Nat) (lv : List (Nat × pv)) (h : pH) (xs ys : List Int) : Prop := tm.1 ≤ d ∧ m_L lv tm.2.1 xs ∧ m_F h tm.2.2.1 ys ∧ ok_c ((d : Int) :: (xs ++ ys)) tm.2.2.2
def m_P (p : eP) (pre : List Int) (rv : Option pv) (h : pH) (zs : List Int) : Prop := (match p.1 with
  | none => rv = none ∧ ∃ ys, zs = ys ∧ m_F h p.2.1 ys
  | some t => ∃ v x ys, rv = some v ∧ m_V v t.1 t.2 x ∧ zs = x :: ys ∧ m_F h p.2.1 ys) ∧ ok_c (pre ++ zs) p.2.2
/-- a contract holds at a depth -/
def k_S (G : Nat → eE) (X : pH → Prop) (k : eK) (d : Nat) : Prop := ∀ (vs : List pv) (h : pH) (xs ys : List Int) (m : Int), g_I G h → X h → m_M k.2.1 d (px_ar 0 vs) h xs ys → d ≤ 1000000 → ev_t ((d : Int) :: (xs ++ ys)) k.2.2.1 m → m ≤ d →
  ∃ n o, px_run eL n d none k.1 0 (px_ar 0 vs) [] h = some o ∧ g_I G o.2 ∧ X o.2 ∧ f_M k.2.2.2.1 h o.2 ∧ ∃ p ∈ k.2.2.2.2, ∃ zs, m_P p ((d : Int) :: (xs ++ ys)) o.1 o.2 zs
/-! substitution -/
def e_R (ρ : List Int) : List eT → List Int → Prop
  | [], [] => True
  | t :: ts, x :: xs => ev_t ρ t x ∧ e_R ρ ts xs
  | _, _ => False
theorem e_R_mono {ρ ρ' : List Int} (h : ρ <+: ρ') : ∀ {ts : List eT} {xs : List Int}, e_R ρ ts xs → e_R ρ' ts xs
  | [], [], _ => trivial
  | t :: ts, x :: xs, he => ⟨ev_t_mono h he.1, e_R_mono h he.2⟩
theorem e_R_app {ρ : List Int} : ∀ {ts us : List eT} {xs ys : List Int}, e_R ρ ts xs → e_R ρ us ys → e_R ρ (ts ++ us) (xs ++ ys)
  | [], us, [], ys, _, h => h
  | t :: ts, us, x :: xs, ys, h1, h => ⟨h1.1, e_R_app h1.2 h⟩
theorem e_R_at {ρ : List Int} : ∀ {ts : List eT} {xs : List Int} {i : Nat} {x : Int}, e_R ρ ts xs → xs[i]? = some x → ∃ t, ts[i]? = some t ∧ ev_t ρ t x
  | [], [], i, x, _, h => by cases h
  | t :: ts, y :: xs, 0, x, he, h => by
    cases h
    exact ⟨t, rfl, he.1⟩
  | t :: ts, y :: xs, i + 1, x, he, h => by
    obtain ⟨u, h1, h2⟩ := e_R_at he.2 (show xs[i]? = some x from h)
    exact ⟨u, h1, h2⟩
theorem e_R_ta {ρ : List Int} : ∀ {ts : List eT} {xs : List Int} {i : Nat} {t : eT}, e_R ρ ts xs → ts[i]? = some t → ∃ x, xs[i]? = some x ∧ ev_t ρ t x
  | [], [], i, t, _, h => by cases h
  | u :: ts, y :: xs, 0, t, he, h => by
    cases h
    exact ⟨y, rfl, he.1⟩
  | u :: ts, y :: xs, i + 1, t, he, h => by
    obtain ⟨x, h1, h2⟩ := e_R_ta (ts := ts) (xs := xs) (i := i) he.2 h
    exact ⟨x, h1, h2⟩
def e_sub (vals : List eT) : List (Nat × Int) → eT → Option eT
  | [], a => some a
  | p :: l, a => match vals[p.1]? with
    | some v => ea_ft (ea_add (ea_sc p.2 v) a) (fun a => e_sub vals l a)
    | none => none
theorem e_sub_ok {ρ : List Int} {vals : List eT} {xs : List Int} (he : e_R ρ vals xs) : ∀ {l : List (Nat × Int)} {a b : eT} {y z : Int}, ev_t ρ a y → e_sub vals l a = some b → ev_s xs l = some z → ev_t ρ b (y + z)
  | [], a, b, y, z, ha, hb, hz => by
    cases hb; cases hz
    rw [Int.add_zero]
    exact ha
  | p :: l, a, b, y, z, ha, hb, hz => by
    obtain ⟨x, w, h1, h2, h3⟩ := ev_s_cons.mp hz
    unfold e_sub at hb
    obtain ⟨t, h4, h5⟩ := e_R_at he h1
    rw [h4] at hb
    dsimp only at hb
    rw [ea_ft_eq] at hb
    have h6 := e_sub_ok he (ev_add (ev_sc p.2 h5) ha) hb h2
    rw [show y + z = p.2 * x + y + w by omega]
    exact h6
theorem e_sub_ev {ρ : List Int} {vals : List eT} {xs : List Int} (he : e_R ρ vals xs) : ∀ {l : List (Nat × Int)} {a b : eT}, e_sub vals l a = some b → ∃ z, ev_s xs l = some z
  | [], a, b, _ => ⟨0, rfl⟩
  | p :: l, a, b, hb => by
    unfold e_sub at hb
    split at hb
    · next v hv =>
      rw [ea_ft_eq] at hb
      obtain ⟨x, h1, -⟩ := e_R_ta he hv
      obtain ⟨z, h2⟩ := e_sub_ev he hb
      exact ⟨_, ev_s_cons.mpr ⟨x, z, h1, h2, rfl⟩⟩
    · cases hb
/-- a term over the symbols of a template, put over those of the state -/
def e_st (vals : List eT) (t : eT) : Option eT := e_sub vals t.2 (t.1, [])
theorem e_st_ok {ρ : List Int} {vals : List eT} {xs : List Int} (he : e_R ρ vals xs) {t u : eT} (h : e_st vals t = some u) : ∃ x, ev_t xs t x ∧ ev_t ρ u x := by
  obtain ⟨z, hz⟩ := e_sub_ev he h
  exact ⟨t.1 + z, ⟨z, hz, rfl⟩, e_sub_ok he (ev_c t.1) h hz⟩
theorem e_st_ev {ρ : List Int} {vals : List eT} {xs : List Int} (he : e_R ρ vals xs) {t u : eT} (h : e_st vals t = some u) {x : Int} (hx : ev_t xs t x) : ev_t ρ u x := by
  obtain ⟨y, h1, h2⟩ := e_st_ok he h
  rw [ev_t_fn hx h1]
  exact h2
/-! a state fits a template -/
def ef_L (L : List (Nat × eV)) (A : eS) : List eSL → List eT → Option (List eT)
  | [], vs => some vs
  | s :: ss, vs => match al_g L s.1 with
    | some a => if ea_in A a s.2.1 s.2.2 then ef_L L A ss (vs ++ [a.2]) else none
    | none => none
theorem ef_L_ok {c : eX} {ρ : List Int} {A : eS} {h : pH} {L : List (Nat × eV)} {lv : List (Nat × pv)} (hb : b_R c ρ A h) (hl : l_R ρ L lv) : ∀ {ss : List eSL} {vs ws : List eT} {us : List Int}, e_R ρ vs us → ef_L L A ss vs = some ws → ∃ xs, m_L lv ss xs ∧ e_R ρ ws (us ++ xs)
  | [], vs, ws, us, he, hh => by
    cases hh
    exact ⟨[], trivial, by rw [List.append_nil]; exact he⟩
  | s :: ss, vs, ws, us, he, hh => by
    unfold ef_L at hh
    split at hh
    · next a ha =>
      split at hh
      · next hi =>
        obtain ⟨v, h1, h2⟩ := hl _ (al_g_ok ha)
        obtain ⟨h3, h4⟩ := ea_in_ok hb h2 hi
        have hev : ev_t ρ a.2 (cv v) := by
          have n3 : a.1 ≠ 3 := by
            intro e
            unfold ea_in at hi
            rw [Bool.and_eq_true, Bool.and_eq_true, Bool.and_eq_true, Bool.not_eq_true'] at hi
            have h5 := Nat.eq_of_beq_eq_true hi.1.1.1
            have h6 := hi.1.1.2
            rw [← h5, e] at h6
            cases h6
          exact (v_R_of n3 h2).2
        obtain ⟨xs, h5, h6⟩ := ef_L_ok hb hl (us := us ++ [cv v]) (e_R_app he (us := [a.2]) ⟨hev, trivial⟩) hh
        refine ⟨cv v :: xs, ⟨⟨v, h1, h3, rfl, h4⟩, h5⟩, ?_⟩
        rw [List.append_assoc] at h6
        exact h6
      · cases hh
    · cases hh
def ef_rd (G : Nat → eE) (A : eS) (k y : Nat) : Option (eV × eS) := match ef_g A.2.2.2.1 k y (0, []) with
  | some v => some (v, A)
  | none => match eL[k]? with
    | some t => if Nat.beq t.1 0 && Nat.ble (y + 1) (pnf t.2) then some ((ea_val A (e_tag t.2 y) (G (cn k + y))).1, es_F (ea_val A (e_tag t.2 y) (G (cn k + y))).2 ((k, y, (0, []), (ea_val A (e_tag t.2 y) (G (cn k + y))).1) :: (ea_val A (e_tag t.2 y) (G (cn k + y))).2.2.2.2.1)) else none
    | none => none
theorem h_c_at {h : pH} {k y : Nat} {t : Nat × Nat} {j : Int} (ht : eL[k]? = some t) (h0 : t.1 = 0) (hy : y < pnf t.2) : h_c h k y j = some (pF h t.2 k y) := by
  unfold h_c
  rw [ht]
  dsimp only
  rw [h0, if_pos hy]
  rfl
theorem ef_rd_ok {c : eX} {ρ : List Int} {A A' : eS} {h : pH} (hb : b_R c ρ A h) {k y : Nat} {a : eV} (hh : ef_rd c.1 A k y = some (a, A')) : ∃ ρ' v, ρ <+: ρ' ∧ b_R c ρ' A' h ∧ h_c h k y 0 = some v ∧ v_R ρ' a v ∧ A'.2.2.2.2 = A.2.2.2.2 := by
  unfold ef_rd at hh
  split at hh
  · next v hv =>
    cases hh
    obtain ⟨j, w, h1, h2, h3⟩ := hb.2.2.2.1 _ (ef_g_ok hv)
    have e := ev_c_iff h1
    dsimp only at h2 e
    rw [e] at h2
    exact ⟨ρ, w, List.prefix_rfl, hb, h2, h3, rfl⟩
  · split at hh
    · next t ht =>
      split at hh
      · next hc =>
        rw [Bool.and_eq_true] at hc
        have h0 := Nat.eq_of_beq_eq_true hc.1
        have hy : y < pnf t.2 := Nat.le_of_ble_eq_true hc.2
        have q := (hb.2.2.2.2.1 k t ht).1 h0 y hy
        obtain ⟨ρ', h1, h2, h3, h4, h5⟩ := ea_val_ok hb (e_tag t.2 y) q
        cases hh
        have e1 : (ea_val A (e_tag t.2 y) (c.1 (cn k + y))).1 = (e_tag t.2 y, (ea_val A (e_tag t.2 y) (c.1 (cn k + y))).1.2) := Prod.ext h3 rfl
        have hv : v_R ρ' (ea_val A (e_tag t.2 y) (c.1 (cn k + y))).1 (pF h t.2 k y) := by
          rw [e1]
          exact v_R_mk (e_tag_ok h t.2 k y) h4
        refine ⟨ρ', pF h t.2 k y, h1, ⟨h2.1, h2.2.1, h2.2.2.1, ?_, h2.2.2.2.2⟩, h_c_at ht h0 hy, hv, h5⟩
        intro f hf
        rcases List.mem_cons.mp hf with rfl | hf
        · exact ⟨0, _, ev_c 0, h_c_at ht h0 hy, hv⟩
        · exact h2.2.2.2.1 f hf
      · cases hh
    · cases hh
def ef_F (G : Nat → eE) : List eSF → eS → List eT → Option (eS × List eT)
  | [], A, vs => some (A, vs)
  | s :: ss, A, vs => match ef_rd G A s.1 s.2.1 with
    | some q => if ea_in q.2 q.1 s.2.2.1 s.2.2.2 then ef_F G ss q.2 (vs ++ [q.1.2]) else none
    | none => none
theorem ef_F_ok {c : eX} {h : pH} : ∀ {ss : List eSF} {ρ : List Int} {A A' : eS} {vs ws : List eT} {us : List Int}, b_R c ρ A h → e_R ρ vs us → ef_F c.1 ss A vs = some (A', ws) → ∃ ρ' ys, ρ <+: ρ' ∧ b_R c ρ' A' h ∧ m_F h ss ys ∧ e_R ρ' ws (us ++ ys) ∧ A'.2.2.2.2 = A.2.2.2.2
  | [], ρ, A, A', vs, ws, us, hb, he, hh => by
    cases hh
    exact ⟨ρ, [], List.prefix_rfl, hb, trivial, by rw [List.append_nil]; exact he, rfl⟩
  | s :: ss, ρ, A, A', vs, ws, us, hb, he, hh => by
    unfold ef_F at hh
    split at hh
    · next q hq =>
      split at hh
      · next hi =>
        obtain ⟨a, A1⟩ := q
        obtain ⟨ρ1, v, h1, h2, h3, h4, h5⟩ := ef_rd_ok hb hq
        dsimp only at hi hh
        obtain ⟨h6, h7⟩ := ea_in_ok h2 h4 hi
        have hev : ev_t ρ1 a.2 (cv v) := by
          have n3 : a.1 ≠ 3 := by
            intro e
            unfold ea_in at hi
            rw [Bool.and_eq_true, Bool.and_eq_true, Bool.and_eq_true, Bool.not_eq_true'] at hi
            have h5 := Nat.eq_of_beq_eq_true hi.1.1.1
            have h6 := hi.1.1.2
            rw [← h5, e] at h6
            cases h6
          exact (v_R_of n3 h4).2
        obtain ⟨ρ2, ys, g1, g2, g3, g4, g5⟩ := ef_F_ok h2 (us := us ++ [cv v]) (e_R_app (e_R_mono h1 he) (us := [a.2]) ⟨hev, trivial⟩) hh
        refine ⟨ρ2, cv v :: ys, h1.trans g1, g2, ⟨⟨v, h3, h6, rfl, h7⟩, g3⟩, ?_, g5.trans h5⟩
        rw [List.append_assoc] at g4
        exact g4
      · cases hh
    · cases hh
def ef_C (A : eS) (vals : List eT) (C : List eT) : Bool := C.all (fun t => match e_st vals t with
  | some u => ea_isle A.2.1 A.2.2.1 u 0
  | none => false)
theorem ef_C_ok {c : eX} {ρ : List Int} {A : eS} {h : pH} (hb : b_R c ρ A h) {vals C : List eT} {xs : List Int} (he : e_R ρ vals xs) (hh : ef_C A vals C = true) : ok_c xs C := fun t ht => by
  have h1 := List.all_eq_true.mp hh t ht
  cases hu : e_st vals t with
  | none => rw [hu] at h1; cases h1
  | some u =>
    rw [hu] at h1
    obtain ⟨x, h2, h3⟩ := e_st_ok he hu
    exact ⟨x, h2, ea_isle_ok hb.2.1 hb.2.2.1 h1 h3⟩
/-- j is the frame's own depth below the outermost one, dd how much further down the one goes that is asked -/
def ef_M (G : Nat → eE) (L : List (Nat × eV)) (A : eS) (dd : Nat) (tm : eM) : Option (eS × List eT) := if ea_isge A.2.1 A.2.2.1 (0, [(0, 1)]) ((tm.1 + dd : Nat) : Int) then (match ef_L L A tm.2.1 [(-(dd : Int), [(0, 1)])] with
  | some vs => match ef_F G tm.2.2.1 A vs with
    | some q => if ef_C q.1 q.2 tm.2.2.2 then some q else none
    | none => none
  | none => none) else none
theorem ef_M_ok {c : eX} {ρ : List Int} {A A' : eS} {h : pH} {L : List (Nat × eV)} {lv : List (Nat × pv)} (hb : b_R c ρ A h) (hl : l_R ρ L lv) {dd d : Nat} (hd : d + dd = c.2.2.2.2) {tm : eM} {ws : List eT} (hh : ef_M c.1 L A dd tm = some (A', ws)) : ∃ ρ' xs ys, ρ <+: ρ' ∧ b_R c ρ' A' h ∧ m_M tm d lv h xs ys ∧ e_R ρ' ws ((d : Int) :: (xs ++ ys)) ∧ A'.2.2.2.2 = A.2.2.2.2 := by
  unfold ef_M at hh
  split at hh
  · next h0 =>
    have hv := ev_v hb.2.2.2.2.2.2.2
    have h1 := ea_isge_ok hb.2.1 hb.2.2.1 h0 hv
    split at hh
    · next vs hvs =>
      have h2 : ev_t ρ (-(dd : Int), [(0, 1)]) (d : Int) := by
        obtain ⟨y, e1, e2⟩ := hv
        exact ⟨y, e1, by show (d : Int) = -(dd : Int) + y; have e2 : (c.2.2.2.2 : Int) = 0 + y := e2; omega⟩
      obtain ⟨xs, h3, h4⟩ := ef_L_ok hb hl (vs := [(-(dd : Int), [(0, 1)])]) (us := [(d : Int)]) ⟨h2, trivial⟩ hvs
      split at hh
      · next q hq =>
        obtain ⟨A1, us⟩ := q
        obtain ⟨ρ', ys, g1, g2, g3, g4, g5⟩ := ef_F_ok hb h4 hq
        dsimp only at hh
        split at hh
        · next hC =>
          have g4 : e_R ρ' us ((d : Int) :: (xs ++ ys)) := g4
          cases hh
          exact ⟨ρ', xs, ys, g1, g2, ⟨by omega, h3, g3, ef_C_ok g2 g4 hC⟩, g4, g5⟩
        · cases hh
      · cases hh
    · cases hh
  · cases hh
