/-! the tie: runs from within a method by certificate; two things of one run -/
def ex_mid (G : Nat → eE) (KT : Nat → List eK) (DX N : Nat) (k : eK) (cs : List eCc) (pc : Nat) : Bool := ex_go G KT DX N k cs none pc k.2.1 && cs.all (fun ct => ex_m0 ct.2.1 ct.2.2 && ex_go G KT DX N k cs (some ct.2.2) ct.1 ct.2.1)
theorem ex_mid_ok {G : Nat → eE} {X : pH → Prop} {KT : Nat → List eK} {DX N : Nat} {k : eK} {cs : List eCc} {pc : Nat} (hX : x_K X DX) (hk : ex_mid G KT DX N k cs pc = true) {d : Nat} (hK : ∀ d', d' < d → ∀ y, ∀ k' ∈ KT y, k_S G X k' d') {lv : List (Nat × pv)} {h : pH} {xs ys : List Int} (hg : g_I G h) (hx : X h) (hm : m_M k.2.1 d lv h xs ys) (hd : d ≤ 1000000) : t_X d k.1 pc lv [] h (fun o => g_I G o.2 ∧ X o.2 ∧ f_M k.2.2.2.1 h o.2 ∧ ∃ p ∈ k.2.2.2.2, ∃ zs, m_P p ((d : Int) :: (xs ++ ys)) o.1 o.2 zs) := by
  unfold ex_mid at hk
  rw [Bool.and_eq_true] at hk
  obtain ⟨hk1, hk2⟩ := hk
  let P : Option pv × pH → Prop := fun o => g_I G o.2 ∧ X o.2 ∧ f_M k.2.2.2.1 h o.2 ∧ ∃ p ∈ k.2.2.2.2, ∃ zs, m_P p ((d : Int) :: (xs ++ ys)) o.1 o.2 zs
  have hret : ∀ (ρ : List Int) (v : Option eV) (A' : eS) (ρ' : List Int) (rv : Option pv) (h' : pH), ex_ret G k.2.2.2.2 v A' = true → ρ <+: ρ' → b_R (G, X, h, k.2.2.2.1, d) ρ' A' h' → o_R ρ' v rv → P (rv, h') := fun ρ v A' ρ' rv h' q1 q2 q3 q4 => ⟨q3.2.2.2.2.1, q3.2.2.2.2.2.1, q3.2.2.2.2.2.2.1, ex_ret_ok q3 q4 q1 _⟩
  have hcuts : ∀ (n : Nat), ∀ ct ∈ cs, ∀ (lv : List (Nat × pv)) (h' : pH) (xs' ys' : List Int) (mv : Int), g_I G h' → X h' → f_M k.2.2.2.1 h h' → m_M ct.2.1 d lv h' xs' ys' → ev_t ((d : Int) :: (xs' ++ ys')) ct.2.2 mv → mv < n → t_X d k.1 ct.1 lv [] h' P := by
    intro n
    induction n with
    | zero =>
      intro ct hct lv h' xs' ys' mv g1 g2 g3 g4 g5 g6
      have h1 := List.all_eq_true.mp hk2 ct hct
      rw [Bool.and_eq_true] at h1
      have hr := ex_in_ok (c := (G, X, h, k.2.2.2.1, d)) g4 hd g1 g2 g3
      have h2 := ea_isge_ok hr.1.2.1 hr.1.2.2.1 h1.1 g5
      omega
    | succ n ih =>
      intro ct hct lv h' xs' ys' mv g1 g2 g3 g4 g5 g6
      have h1 := List.all_eq_true.mp hk2 ct hct
      rw [Bool.and_eq_true] at h1
      have hr := ex_in_ok (c := (G, X, h, k.2.2.2.1, d)) g4 hd g1 g2 g3
      refine ax_ok (c := (G, X, h, k.2.2.2.1, d)) hX hd hK h1.2 d lv [] h' _ P hr (Nat.add_zero d) (fun pc' f A' ρ' lv' st' h2 q1 q2 q3 q4 => ?_) (hret _)
      unfold ex_cf at q1
      split at q1
      · cases q1
        unfold ex_cut at q2
        split at q2
        · next hS =>
          obtain ⟨ct', hct', q2⟩ := List.any_eq_true.mp q2
          rw [Bool.and_eq_true] at q2
          obtain ⟨e0, q2⟩ := q2
          have e0 := Nat.eq_of_beq_eq_true e0
          have hs := q4.2.2
          rw [hS] at hs
          have e1 := s_R_nil hs
          subst e1
          split at q2
          · cases q2
          · next q hq =>
            obtain ⟨A2, ws⟩ := q
            obtain ⟨ρ2, xs2, ys2, p1, p2, p3, p4, p5⟩ := ef_M_ok (d := d) q4.1 q4.2.1 (Nat.add_zero d) hq
            dsimp only at q2
            split at q2
            · next u hu =>
              obtain ⟨z, z1, z2⟩ := e_st_ok p4 hu
              have z3 := ea_isle_ok p2.2.1 p2.2.2.1 q2 (ev_sub z2 (ev_t_mono (q3.trans p1) g5))
              have g := ih ct' hct' lv' h2 xs2 ys2 z p2.2.2.2.2.1 p2.2.2.2.2.2.1 p2.2.2.2.2.2.2.1 p3 z1 (by omega)
              rw [e0] at g
              exact g
            · cases q2
        · cases q2
      · cases q1
  have hr := ex_in_ok (c := (G, X, h, k.2.2.2.1, d)) hm hd hg hx (f_M_rf _ h)
  refine ax_ok (c := (G, X, h, k.2.2.2.1, d)) hX hd hK hk1 d _ [] h _ P hr (Nat.add_zero d) (fun pc' f A' ρ' lv' st' h2 q1 q2 q3 q4 => ?_) (hret _)
  unfold ex_cf at q1
  split at q1
  · cases q1
    unfold ex_cut at q2
    split at q2
    · next hS =>
      obtain ⟨ct', hct', q2⟩ := List.any_eq_true.mp q2
      rw [Bool.and_eq_true] at q2
      obtain ⟨e0, q2⟩ := q2
      have e0 := Nat.eq_of_beq_eq_true e0
      have hs := q4.2.2
      rw [hS] at hs
      have e1 := s_R_nil hs
      subst e1
      split at q2
      · cases q2
      · next q hq =>
        obtain ⟨A2, ws⟩ := q
        obtain ⟨ρ2, xs2, ys2, p1, p2, p3, p4, p5⟩ := ef_M_ok (d := d) q4.1 q4.2.1 (Nat.add_zero d) hq
        dsimp only at q2
        split at q2
        · next u hu =>
          obtain ⟨z, z1, z2⟩ := e_st_ok p4 hu
          have g := hcuts (z.toNat + 1) ct' hct' lv' h2 xs2 ys2 z p2.2.2.2.2.1 p2.2.2.2.2.2.1 p2.2.2.2.2.2.2.1 p3 z1 (by omega)
          rw [e0] at g
          exact g
        · cases q2
    · cases q2
  · cases q1
theorem t_and {d μ pc : Nat} {lv : List (Nat × pv)} {st : List pv} {h : pH} {P Q : Option pv × pH → Prop} (h1 : t_X d μ pc lv st h P) (h2 : t_X d μ pc lv st h Q) : t_X d μ pc lv st h (fun o => P o ∧ Q o) := by
  obtain ⟨n1, o1, a1, b1⟩ := h1
  obtain ⟨n2, o2, a2, b2⟩ := h2
  have e1 := px_run_le eL (Nat.le_max_left n1 n2) a1
  have e2 := px_run_le eL (Nat.le_max_right n1 n2) a2
  rw [e1] at e2
  have e3 := Option.some.inj e2
  subst e3
  exact ⟨_, _, e1, b1, b2⟩
theorem t_mono {d μ pc : Nat} {lv : List (Nat × pv)} {st : List pv} {h : pH} {P Q : Option pv × pH → Prop} (h1 : t_X d μ pc lv st h P) (h2 : ∀ o, P o → Q o) : t_X d μ pc lv st h Q := by
  obtain ⟨n1, o1, a1, b1⟩ := h1
  exact ⟨n1, o1, a1, h2 _ b1⟩
/-- a certificate from a place within, over the table -/
theorem mid_L {k : eK} {cs : List eCc} {pc d : Nat} (hk : ex_mid eG eKT eDX 4000 k cs pc = true) {lv : List (Nat × pv)} {h : pH} {xs ys : List Int} (hG : g_I eG h) (hx : xL h) (hm : m_M k.2.1 d lv h xs ys) (hd : d ≤ 1000000) {P : Option pv × pH → Prop} (hP : ∀ o, g_I eG o.2 → xL o.2 → f_M k.2.2.2.1 h o.2 → (∃ p ∈ k.2.2.2.2, ∃ zs, m_P p ((d : Int) :: (xs ++ ys)) o.1 o.2 zs) → P o) : t_X d k.1 pc lv [] h P :=
  t_mono (ex_mid_ok xL_K hk (fun d' _ => kt_L d') hG hx hm hd) (fun o ho => hP o ho.1 ho.2.1 ho.2.2.1 ho.2.2.2)
/-- from a place within to another one: no end ahead of it -/
def ex_to (G : Nat → eE) (KT : Nat → List eK) (DX N : Nat) (k : eK) (cs : List eCc) (sp : eCc) (pc : Nat) : Bool := ex_go G KT DX N k (sp :: cs) none pc k.2.1 && cs.all (fun ct => ex_m0 ct.2.1 ct.2.2 && ex_go G KT DX N k (sp :: cs) (some ct.2.2) ct.1 ct.2.1)
theorem ex_to_ok {G : Nat → eE} {X : pH → Prop} {KT : Nat → List eK} {DX N : Nat} {k : eK} {cs : List eCc} {sp : eCc} {pc : Nat} (hX : x_K X DX) (hk : ex_to G KT DX N k cs sp pc = true) (hps : k.2.2.2.2 = []) {d : Nat} (hK : ∀ d', d' < d → ∀ y, ∀ k' ∈ KT y, k_S G X k' d') {lv : List (Nat × pv)} {h : pH} {xs ys : List Int} (hg : g_I G h) (hx : X h) (hm : m_M k.2.1 d lv h xs ys) (hd : d ≤ 1000000) {P : Option pv × pH → Prop} (hstop : ∀ (lv' : List (Nat × pv)) (h' : pH) (xs' ys' : List Int), g_I G h' → X h' → f_M k.2.2.2.1 h h' → m_M sp.2.1 d lv' h' xs' ys' → t_X d k.1 sp.1 lv' [] h' P) : t_X d k.1 pc lv [] h P := by
  unfold ex_to at hk
  rw [Bool.and_eq_true] at hk
  obtain ⟨hk1, hk2⟩ := hk
  have hret : ∀ (ρ : List Int) (v : Option eV) (A' : eS) (ρ' : List Int) (rv : Option pv) (h' : pH), ex_ret G k.2.2.2.2 v A' = true → ρ <+: ρ' → b_R (G, X, h, k.2.2.2.1, d) ρ' A' h' → o_R ρ' v rv → P (rv, h') := fun ρ v A' ρ' rv h' q1 q2 q3 q4 => by
    rw [hps] at q1
    cases q1
  have hcuts : ∀ (n : Nat), ∀ ct ∈ sp :: cs, ∀ (lv : List (Nat × pv)) (h' : pH) (xs' ys' : List Int) (mv : Int), g_I G h' → X h' → f_M k.2.2.2.1 h h' → m_M ct.2.1 d lv h' xs' ys' → ev_t ((d : Int) :: (xs' ++ ys')) ct.2.2 mv → mv < n → t_X d k.1 ct.1 lv [] h' P := by
    intro n
    induction n with
    | zero =>
      intro ct hct lv h' xs' ys' mv g1 g2 g3 g4 g5 g6
      rcases List.mem_cons.mp hct with rfl | hct
      · exact hstop lv h' xs' ys' g1 g2 g3 g4
      have h1 := List.all_eq_true.mp hk2 ct hct
      rw [Bool.and_eq_true] at h1
      have hr := ex_in_ok (c := (G, X, h, k.2.2.2.1, d)) g4 hd g1 g2 g3
      have h2 := ea_isge_ok hr.1.2.1 hr.1.2.2.1 h1.1 g5
      omega
    | succ n ih =>
      intro ct hct lv h' xs' ys' mv g1 g2 g3 g4 g5 g6
      rcases List.mem_cons.mp hct with rfl | hct
      · exact hstop lv h' xs' ys' g1 g2 g3 g4
      have h1 := List.all_eq_true.mp hk2 ct hct
      rw [Bool.and_eq_true] at h1
      have hr := ex_in_ok (c := (G, X, h, k.2.2.2.1, d)) g4 hd g1 g2 g3
      refine ax_ok (c := (G, X, h, k.2.2.2.1, d)) hX hd hK h1.2 d lv [] h' _ P hr (Nat.add_zero d) (fun pc' f A' ρ' lv' st' h2 q1 q2 q3 q4 => ?_) (hret _)
      unfold ex_cf at q1
      split at q1
      · cases q1
        unfold ex_cut at q2
        split at q2
        · next hS =>
          obtain ⟨ct', hct', q2⟩ := List.any_eq_true.mp q2
          rw [Bool.and_eq_true] at q2
          obtain ⟨e0, q2⟩ := q2
          have e0 := Nat.eq_of_beq_eq_true e0
          have hs := q4.2.2
          rw [hS] at hs
          have e1 := s_R_nil hs
          subst e1
          split at q2
          · cases q2
          · next q hq =>
            obtain ⟨A2, ws⟩ := q
            obtain ⟨ρ2, xs2, ys2, p1, p2, p3, p4, p5⟩ := ef_M_ok (d := d) q4.1 q4.2.1 (Nat.add_zero d) hq
            dsimp only at q2
            split at q2
            · next u hu =>
              obtain ⟨z, z1, z2⟩ := e_st_ok p4 hu
              have z3 := ea_isle_ok p2.2.1 p2.2.2.1 q2 (ev_sub z2 (ev_t_mono (q3.trans p1) g5))
              have g := ih ct' hct' lv' h2 xs2 ys2 z p2.2.2.2.2.1 p2.2.2.2.2.2.1 p2.2.2.2.2.2.2.1 p3 z1 (by omega)
              rw [e0] at g
              exact g
            · cases q2
        · cases q2
      · cases q1
  have hr := ex_in_ok (c := (G, X, h, k.2.2.2.1, d)) hm hd hg hx (f_M_rf _ h)
  refine ax_ok (c := (G, X, h, k.2.2.2.1, d)) hX hd hK hk1 d _ [] h _ P hr (Nat.add_zero d) (fun pc' f A' ρ' lv' st' h2 q1 q2 q3 q4 => ?_) (hret _)
  unfold ex_cf at q1
  split at q1
  · cases q1
    unfold ex_cut at q2
    split at q2
    · next hS =>
      obtain ⟨ct', hct', q2⟩ := List.any_eq_true.mp q2
      rw [Bool.and_eq_true] at q2
      obtain ⟨e0, q2⟩ := q2
      have e0 := Nat.eq_of_beq_eq_true e0
      have hs := q4.2.2
      rw [hS] at hs
      have e1 := s_R_nil hs
      subst e1
      split at q2
      · cases q2
      · next q hq =>
        obtain ⟨A2, ws⟩ := q
        obtain ⟨ρ2, xs2, ys2, p1, p2, p3, p4, p5⟩ := ef_M_ok (d := d) q4.1 q4.2.1 (Nat.add_zero d) hq
        dsimp only at q2
        split at q2
        · next u hu =>
          obtain ⟨z, z1, z2⟩ := e_st_ok p4 hu
          have g := hcuts (z.toNat + 1) ct' hct' lv' h2 xs2 ys2 z p2.2.2.2.2.1 p2.2.2.2.2.2.1 p2.2.2.2.2.2.2.1 p3 z1 (by omega)
          rw [e0] at g
          exact g
        · cases q2
    · cases q2
  · cases q1
theorem to_L {k : eK} {cs : List eCc} {sp : eCc} {pc d : Nat} (hk : ex_to eG eKT eDX 4000 k cs sp pc = true) (hps : k.2.2.2.2 = []) {lv : List (Nat × pv)} {h : pH} {xs ys : List Int} (hG : g_I eG h) (hx : xL h) (hm : m_M k.2.1 d lv h xs ys) (hd : d ≤ 1000000) {P : Option pv × pH → Prop} (hstop : ∀ (lv' : List (Nat × pv)) (h' : pH) (xs' ys' : List Int), g_I eG h' → xL h' → f_M k.2.2.2.1 h h' → m_M sp.2.1 d lv' h' xs' ys' → t_X d k.1 sp.1 lv' [] h' P) : t_X d k.1 pc lv [] h P := ex_to_ok xL_K hk hps (fun d' _ => kt_L d') hG hx hm hd hstop
