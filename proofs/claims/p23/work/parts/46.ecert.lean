/-! the reckoner with bounds: certificates -/
abbrev eCc : Type := Nat × eM × eT
def ei_L : List eSL → Nat → List (Nat × eE) × List (Nat × eV)
  | [], _ => ([], [])
  | s :: ss, n => xe_f (n + 1) (fun m => match ei_L ss m with
    | (r1, r2) => ((n, s.2.2) :: r1, (s.1, (s.2.1, (0, [(n, 1)]))) :: r2))
def ei_F : List eSF → Nat → List (Nat × eE) × List eF
  | [], _ => ([], [])
  | s :: ss, n => xe_f (n + 1) (fun m => match ei_F ss m with
    | (r1, r2) => ((n, s.2.2.2) :: r1, (s.1, s.2.1, (0, []), (s.2.2.1, (0, [(n, 1)]))) :: r2))
theorem ei_L_ok {ρ : List Int} {lv : List (Nat × pv)} : ∀ {ss : List eSL} {xs : List Int} {n : Nat}, m_L lv ss xs → (∀ (i : Nat) (x : Int), xs[i]? = some x → ρ[n + i]? = some x) → ok_e ρ (ei_L ss n).1 ∧ l_R ρ (ei_L ss n).2 lv
  | [], [], _, _, _ => ⟨fun p hp => absurd hp List.not_mem_nil, fun p hp => absurd hp List.not_mem_nil⟩
  | s :: ss, x :: xs, n, hm, hx => by
    obtain ⟨⟨v, h1, h2, h3, h4⟩, h5⟩ := hm
    subst h3
    have ih := ei_L_ok (n := n + 1) h5 (fun i x hi => by
      have := hx (i + 1) x hi
      rw [show n + 1 + i = n + (i + 1) by omega]
      exact this)
    have h0 : ρ[n]? = some (cv v) := hx 0 _ rfl
    unfold ei_L
    rw [xe_f_eq]
    refine ⟨fun p hp => ?_, fun p hp => ?_⟩
    · rcases List.mem_cons.mp hp with rfl | hp
      · exact ⟨_, h0, h4⟩
      · exact ih.1 p hp
    · rcases List.mem_cons.mp hp with rfl | hp
      · exact ⟨v, h1, v_R_mk h2 (ev_v h0)⟩
      · exact ih.2 p hp
theorem ei_F_ok {ρ : List Int} {h : pH} : ∀ {ss : List eSF} {xs : List Int} {n : Nat}, m_F h ss xs → (∀ (i : Nat) (x : Int), xs[i]? = some x → ρ[n + i]? = some x) → ok_e ρ (ei_F ss n).1 ∧ f_F ρ (ei_F ss n).2 h
  | [], [], _, _, _ => ⟨fun p hp => absurd hp List.not_mem_nil, fun p hp => absurd hp List.not_mem_nil⟩
  | s :: ss, x :: xs, n, hm, hx => by
    obtain ⟨⟨v, h1, h2, h3, h4⟩, h5⟩ := hm
    subst h3
    have ih := ei_F_ok (n := n + 1) h5 (fun i x hi => by
      have := hx (i + 1) x hi
      rw [show n + 1 + i = n + (i + 1) by omega]
      exact this)
    have h0 : ρ[n]? = some (cv v) := hx 0 _ rfl
    unfold ei_F
    rw [xe_f_eq]
    refine ⟨fun p hp => ?_, fun p hp => ?_⟩
    · rcases List.mem_cons.mp hp with rfl | hp
      · exact ⟨_, h0, h4⟩
      · exact ih.1 p hp
    · rcases List.mem_cons.mp hp with rfl | hp
      · exact ⟨0, v, ev_c 0, h1, v_R_mk h2 (ev_v h0)⟩
      · exact ih.2 p hp
theorem m_L_len {lv : List (Nat × pv)} : ∀ {ss : List eSL} {xs : List Int}, m_L lv ss xs → xs.length = ss.length
  | [], [], _ => rfl
  | s :: ss, x :: xs, h => congrArg (· + 1) (m_L_len h.2)
theorem m_F_len {h : pH} : ∀ {ss : List eSF} {xs : List Int}, m_F h ss xs → xs.length = ss.length
  | [], [], _ => rfl
  | s :: ss, x :: xs, h => congrArg (· + 1) (m_F_len h.2)
/-- a state out of a template -/
def ex_in (tm : eM) : eS := match ei_L tm.2.1 1 with
  | (e1, L) => xe_f (1 + tm.2.1.length) (fun n1 => match ei_F tm.2.2.1 n1 with
    | (e2, F) => xe_f (n1 + tm.2.2.1.length) (fun n2 => (n2, (0, ((tm.1 : Int), 1000000, [])) :: (e1 ++ e2), tm.2.2.2, F, L, [])))
theorem ex_in_ok {c : eX} {tm : eM} {lv : List (Nat × pv)} {h : pH} {xs ys : List Int} (hm : m_M tm c.2.2.2.2 lv h xs ys) (hT : c.2.2.2.2 ≤ 1000000) (hg : g_I c.1 h) (hx : c.2.1 h) (hf : f_M c.2.2.2.1 c.2.2.1 h) : r_R c ((c.2.2.2.2 : Int) :: (xs ++ ys)) (ex_in tm) lv [] h := by
  obtain ⟨h1, h2, h3, h4⟩ := hm
  have e1 := ei_L_ok (ρ := (c.2.2.2.2 : Int) :: (xs ++ ys)) (n := 1) h2 (fun i x hi => by
    obtain ⟨hl, -⟩ := List.getElem?_eq_some_iff.mp hi
    rw [show 1 + i = i + 1 by omega]
    show (xs ++ ys)[i]? = some x
    rw [List.getElem?_append_left hl]
    exact hi)
  have e2 := ei_F_ok (ρ := (c.2.2.2.2 : Int) :: (xs ++ ys)) (n := 1 + tm.2.1.length) h3 (fun i x hi => by
    rw [show 1 + tm.2.1.length + i = tm.2.1.length + i + 1 by omega]
    show (xs ++ ys)[tm.2.1.length + i]? = some x
    rw [List.getElem?_append_right (by rw [m_L_len h2]; omega), m_L_len h2, Nat.add_sub_cancel_left]
    exact hi)
  unfold ex_in
  generalize ei_L tm.2.1 1 = r1 at e1 ⊢
  obtain ⟨q1, L⟩ := r1
  dsimp only at e1 ⊢
  rw [xe_f_eq]
  generalize ei_F tm.2.2.1 (1 + tm.2.1.length) = r2 at e2 ⊢
  obtain ⟨q2, F⟩ := r2
  dsimp only at e2 ⊢
  rw [xe_f_eq]
  refine ⟨⟨?_, ?_, h4, e2.2, hg, hx, hf, rfl⟩, e1.2, trivial⟩
  · show (xs ++ ys).length + 1 = 1 + tm.2.1.length + tm.2.2.1.length
    rw [List.length_append, m_L_len h2, m_F_len h3]
    omega
  · intro p hp
    rcases List.mem_cons.mp hp with rfl | hp
    · exact ⟨_, rfl, by show (tm.1 : Int) ≤ c.2.2.2.2; omega, by show (c.2.2.2.2 : Int) ≤ 1000000; omega, Or.inl rfl⟩
    · rcases List.mem_append.mp hp with hp | hp
      · exact e1.1 p hp
      · exact e2.1 p hp
/-- at a cut place -/
def ex_cut (G : Nat → eE) (m0 : Option eT) (pc : Nat) (cs : List eCc) (A : eS) : Bool := match A.2.2.2.2.2 with
  | [] => cs.any (fun ct => Nat.beq ct.1 pc && (match ef_M G A.2.2.2.2.1 A 0 ct.2.1 with
    | none => false
    | some q => match m0 with
      | none => (match e_st q.2 ct.2.2 with
        | some _ => true
        | none => false)
      | some m => match e_st q.2 ct.2.2 with
        | some u => ea_isle q.1.2.1 q.1.2.2.1 (ea_sub u m) (-1)
        | none => false))
  | _ => false
def ex_cf (G : Nat → eE) (m0 : Option eT) (cs : List eCc) : eCT := fun pc => if cs.any (fun ct => Nat.beq ct.1 pc) then some (ex_cut G m0 pc cs) else none
def ex_p1 (G : Nat → eE) (v : Option eV) (A : eS) (p : eP) : Bool := match p.2.2 with
  | [] => (match p.1 with
    | none => (match v with
      | none => true
      | some _ => false)
    | some t => match v with
      | none => false
      | some a => ea_in A a t.1 t.2) && (match ef_F G p.2.1 A [] with
    | some _ => true
    | none => false)
  | _ => false
def ex_ret (G : Nat → eE) (ps : List eP) : eRT := fun v A => ps.any (ex_p1 G v A)
def ex_go (G : Nat → eE) (KT : Nat → List eK) (DX N : Nat) (k : eK) (cs : List eCc) (m0 : Option eT) (pc : Nat) (tm : eM) : Bool := ax G KT k.2.2.2.1 DX N 0 k.1 pc true (ex_cf G m0 cs) (ex_in tm) (ex_ret G k.2.2.2.2)
def ex_m0 (tm : eM) (m : eT) : Bool := ea_isge (ex_in tm).2.1 (ex_in tm).2.2.1 m 0
def ex_chk (G : Nat → eE) (KT : Nat → List eK) (DX N : Nat) (k : eK) (cs : List eCc) : Bool := ex_go G KT DX N k cs none 0 k.2.1 && cs.all (fun ct => ex_m0 ct.2.1 ct.2.2 && ex_go G KT DX N k cs (some ct.2.2) ct.1 ct.2.1)
theorem ex_ret_ok {c : eX} {ps : List eP} {v : Option eV} {A : eS} {ρ : List Int} {rv : Option pv} {h : pH} (hb : b_R c ρ A h) (ho : o_R ρ v rv) (hk : ex_ret c.1 ps v A = true) (pre : List Int) : ∃ p ∈ ps, ∃ zs, m_P p pre rv h zs := by
  obtain ⟨p, hp, h1⟩ := List.any_eq_true.mp hk
  refine ⟨p, hp, ?_⟩
  unfold ex_p1 at h1
  split at h1
  · next hC =>
    rw [Bool.and_eq_true] at h1
    obtain ⟨h1, h2⟩ := h1
    split at h2
    · next q hq =>
      obtain ⟨A', ws⟩ := q
      obtain ⟨ρ', ys, g1, g2, g3, g4, g5⟩ := ef_F_ok hb (vs := []) (us := []) trivial hq
      have hC' : ∀ zs : List Int, ok_c (pre ++ zs) p.2.2 := fun zs => by rw [hC]; exact fun t ht => absurd ht List.not_mem_nil
      split at h1
      · next hp1 =>
        split at h1
        · have ho : rv = none := ho
          exact ⟨ys, by rw [hp1]; exact ⟨ho, ys, rfl, g3⟩, hC' _⟩
        · cases h1
      · next t hp1 =>
        split at h1
        · cases h1
        · next a =>
          obtain ⟨w, rfl, hw⟩ := ho
          obtain ⟨e1, e2⟩ := ea_in_ok hb hw h1
          exact ⟨cv w :: ys, by rw [hp1]; exact ⟨w, cv w, ys, rfl, ⟨e1, rfl, e2⟩, rfl, g3⟩, hC' _⟩
    · cases h2
  · cases h1
theorem ex_chk_ok {G : Nat → eE} {X : pH → Prop} {KT : Nat → List eK} {DX N : Nat} {k : eK} {cs : List eCc} (hX : x_K X DX) (hk : ex_chk G KT DX N k cs = true) {d : Nat} (hK : ∀ d', d' < d → ∀ y, ∀ k' ∈ KT y, k_S G X k' d') : k_S G X k d := by
  intro vs h xs ys m hg hx hm hd hme hmd
  unfold ex_chk at hk
  rw [Bool.and_eq_true] at hk
  obtain ⟨hk1, hk2⟩ := hk
  let P : Option pv × pH → Prop := fun o => g_I G o.2 ∧ X o.2 ∧ f_M k.2.2.2.1 h o.2 ∧ ∃ p ∈ k.2.2.2.2, ∃ zs, m_P p ((d : Int) :: (xs ++ ys)) o.1 o.2 zs
  have hret : ∀ (ρ : List Int) (v : Option eV) (A' : eS) (ρ' : List Int) (rv : Option pv) (h' : pH), ex_ret G k.2.2.2.2 v A' = true → ρ <+: ρ' → b_R (G, X, h, k.2.2.2.1, d) ρ' A' h' → o_R ρ' v rv → P (rv, h') := fun ρ v A' ρ' rv h' q1 q2 q3 q4 => ⟨q3.2.2.2.2.1, q3.2.2.2.2.2.1, q3.2.2.2.2.2.2.1, ex_ret_ok q3 q4 q1 _⟩
  have hcuts : ∀ (n : Nat), ∀ ct ∈ cs, ∀ (lv : List (Nat × pv)) (h' : pH) (xs' ys' : List Int) (mv : Int), g_I G h' → X h' → f_M k.2.2.2.1 h h' → m_M ct.2.1 d lv h' xs' ys' → ev_t ((d : Int) :: (xs' ++ ys')) ct.2.2 mv → mv < n → t_X d k.1 ct.1 lv [] h' P := by
    intro n
    induction n with
    | zero =>
      intro ct hct lv h' xs' ys' mv g1 g2 g3 g4 g5 g6
      have h1 := List.all_eq_true.mp hk2 ct hct
      rw [Bool.and_eq_true] at h1
      have hr := ex_in_ok (c := (G, X, h, k.2.2.2.1, d)) g4 hd g1 g2 g3
      have h2 := ea_isge_ok hr.1.2.1 hr.1.2.2.1 h1.1 g5
      omega
    | succ n ih =>
      intro ct hct lv h' xs' ys' mv g1 g2 g3 g4 g5 g6
      have h1 := List.all_eq_true.mp hk2 ct hct
      rw [Bool.and_eq_true] at h1
      have hr := ex_in_ok (c := (G, X, h, k.2.2.2.1, d)) g4 hd g1 g2 g3
      refine ax_ok (c := (G, X, h, k.2.2.2.1, d)) hX hd hK h1.2 d lv [] h' _ P hr (Nat.add_zero d) (fun pc' f A' ρ' lv' st' h2 q1 q2 q3 q4 => ?_) (hret _)
      unfold ex_cf at q1
      split at q1
      · cases q1
        unfold ex_cut at q2
        split at q2
        · next hS =>
          obtain ⟨ct', hct', q2⟩ := List.any_eq_true.mp q2
          rw [Bool.and_eq_true] at q2
          obtain ⟨e0, q2⟩ := q2
          have e0 := Nat.eq_of_beq_eq_true e0
          have hs := q4.2.2
          rw [hS] at hs
          have e1 := s_R_nil hs
          subst e1
          split at q2
          · cases q2
          · next q hq =>
            obtain ⟨A2, ws⟩ := q
            obtain ⟨ρ2, xs2, ys2, p1, p2, p3, p4, p5⟩ := ef_M_ok (d := d) q4.1 q4.2.1 (Nat.add_zero d) hq
            dsimp only at q2
            split at q2
            · next u hu =>
              obtain ⟨z, z1, z2⟩ := e_st_ok p4 hu
              have z3 := ea_isle_ok p2.2.1 p2.2.2.1 q2 (ev_sub z2 (ev_t_mono (q3.trans p1) g5))
              have g := ih ct' hct' lv' h2 xs2 ys2 z p2.2.2.2.2.1 p2.2.2.2.2.2.1 p2.2.2.2.2.2.2.1 p3 z1 (by omega)
              rw [e0] at g
              exact g
            · cases q2
        · cases q2
      · cases q1
  have hr := ex_in_ok (c := (G, X, h, k.2.2.2.1, d)) hm hd hg hx (f_M_rf _ h)
  have fin : t_X d k.1 0 (px_ar 0 vs) [] h P := by
    refine ax_ok (c := (G, X, h, k.2.2.2.1, d)) hX hd hK hk1 d _ [] h _ P hr (Nat.add_zero d) (fun pc' f A' ρ' lv' st' h2 q1 q2 q3 q4 => ?_) (hret _)
    unfold ex_cf at q1
    split at q1
    · cases q1
      unfold ex_cut at q2
      split at q2
      · next hS =>
        obtain ⟨ct', hct', q2⟩ := List.any_eq_true.mp q2
        rw [Bool.and_eq_true] at q2
        obtain ⟨e0, q2⟩ := q2
        have e0 := Nat.eq_of_beq_eq_true e0
        have hs := q4.2.2
        rw [hS] at hs
        have e1 := s_R_nil hs
        subst e1
        split at q2
        · cases q2
        · next q hq =>
          obtain ⟨A2, ws⟩ := q
          obtain ⟨ρ2, xs2, ys2, p1, p2, p3, p4, p5⟩ := ef_M_ok (d := d) q4.1 q4.2.1 (Nat.add_zero d) hq
          dsimp only at q2
          split at q2
          · next u hu =>
            obtain ⟨z, z1, z2⟩ := e_st_ok p4 hu
            have g := hcuts (z.toNat + 1) ct' hct' lv' h2 xs2 ys2 z p2.2.2.2.2.1 p2.2.2.2.2.2.1 p2.2.2.2.2.2.2.1 p3 z1 (by omega)
            rw [e0] at g
            exact g
          · cases q2
      · cases q2
    · cases q1
  obtain ⟨n, o, h1, h2⟩ := fin
  exact ⟨n, o, h1, h2⟩
/-- the contracts of a table, at every lower depth -/
def k_I (G : Nat → eE) (X : pH → Prop) (KT : Nat → List eK) (d : Nat) : Prop := ∀ d', d' < d → ∀ y, ∀ k ∈ KT y, k_S G X k d'
/-- all contracts of a table: by certificate, or by hand, with what holds at lower depths -/
def k_G (G : Nat → eE) (X : pH → Prop) (KT : Nat → List eK) (DX N : Nat) (k : eK) : Prop := (∃ cs, ex_chk G KT DX N k cs = true) ∨ ∀ d, k_I G X KT d → k_S G X k d
theorem k_all {G : Nat → eE} {X : pH → Prop} {KT : Nat → List eK} {DX N : Nat} (hX : x_K X DX) (hall : ∀ y, ∀ k ∈ KT y, k_G G X KT DX N k) (d : Nat) : ∀ y, ∀ k ∈ KT y, k_S G X k d := by
  induction d using Nat.strongRecOn with
  | _ d ih =>
    intro y k hk
    rcases hall y k hk with ⟨cs, h⟩ | h
    · exact ex_chk_ok hX h ih
    · exact h d ih
