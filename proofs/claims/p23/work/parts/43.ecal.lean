/-! the reckoner with bounds: a call by its contract; a state out of a template -/
/-- a fact that is known anew -/
def es_nf (A : eS) (k y : Nat) (n : Nat) (e : eE) : eV × eS := ((ea_val A n e).1, es_F (ea_val A n e).2 ((k, y, (0, []), (ea_val A n e).1) :: (ea_val A n e).2.2.2.2.1))
theorem es_nf_ok {c : eX} {ρ : List Int} {A : eS} {h : pH} (hb : b_R c ρ A h) {k y n : Nat} {e : eE} {v : pv} {x : Int} (hc : h_c h k y 0 = some v) (hv : m_V v n e x) : ∃ ρ', ρ <+: ρ' ∧ b_R c ρ' (es_nf A k y n e).2 h ∧ ev_t ρ' (es_nf A k y n e).1.2 x ∧ (es_nf A k y n e).2.2.2.2.2 = A.2.2.2.2 := by
  obtain ⟨h1, h2, h3⟩ := hv
  subst h2
  obtain ⟨ρ', g1, g2, g3, g4, g5⟩ := ea_val_ok hb n h3
  have e1 : (ea_val A n e).1 = (n, (ea_val A n e).1.2) := Prod.ext g3 rfl
  refine ⟨ρ', g1, ⟨g2.1, g2.2.1, g2.2.2.1, ?_, g2.2.2.2.2⟩, g4, g5⟩
  intro f hf
  rcases List.mem_cons.mp hf with rfl | hf
  · refine ⟨0, v, ev_c 0, hc, ?_⟩
    show v_R ρ' (ea_val A n e).1 v
    rw [e1]
    exact v_R_mk h1 g4
  · exact g2.2.2.2.1 f hf
def ek_F : List eSF → eS → List eT → (eS → List eT → Bool) → Bool
  | [], A, vs, K => K A vs
  | s :: ss, A, vs, K => ek_F ss (es_nf A s.1 s.2.1 s.2.2.1 s.2.2.2).2 (vs ++ [(es_nf A s.1 s.2.1 s.2.2.1 s.2.2.2).1.2]) K
theorem ek_F_ok {c : eX} {h : pH} {K : eS → List eT → Bool} : ∀ {ss : List eSF} {ρ : List Int} {A : eS} {vs : List eT} {us ys : List Int}, b_R c ρ A h → e_R ρ vs us → m_F h ss ys → ek_F ss A vs K = true → ∃ ρ' A' ws, ρ <+: ρ' ∧ b_R c ρ' A' h ∧ e_R ρ' ws (us ++ ys) ∧ K A' ws = true ∧ A'.2.2.2.2 = A.2.2.2.2
  | [], ρ, A, vs, us, [], hb, he, _, hk => ⟨ρ, A, vs, List.prefix_rfl, hb, by rw [List.append_nil]; exact he, hk, rfl⟩
  | s :: ss, ρ, A, vs, us, y :: ys, hb, he, hm, hk => by
    obtain ⟨⟨v, h1, h2⟩, h3⟩ := hm
    obtain ⟨ρ1, g1, g2, g3, g4⟩ := es_nf_ok hb h1 h2
    obtain ⟨ρ2, A', ws, k1, k2, k3, k4, k5⟩ := ek_F_ok g2 (us := us ++ [y]) (e_R_app (e_R_mono g1 he) (us := [_]) ⟨g3, trivial⟩) h3 hk
    refine ⟨ρ2, A', ws, g1.trans k1, k2, ?_, k4, k5.trans g4⟩
    rw [List.append_assoc] at k3
    exact k3
/-- what is told behind a call, one of the posts: facts, constraints, the answer onto the stack S -/
def ek_C (vals : List eT) : List eT → Option (List eT)
  | [] => some []
  | t :: ts => match e_st vals t with
    | some u => match ek_C vals ts with
      | some us => some (u :: us)
      | none => none
    | none => none
theorem ek_C_ok {ρ : List Int} {vals : List eT} {xs : List Int} (he : e_R ρ vals xs) : ∀ {C us : List eT}, ok_c xs C → ek_C vals C = some us → ∀ t ∈ us, ∃ v, ev_t ρ t v ∧ v ≤ 0
  | [], us, _, h => by
    cases h
    exact fun t ht => absurd ht List.not_mem_nil
  | t :: ts, us, hc, h => by
    unfold ek_C at h
    split at h
    · next u hu =>
      split at h
      · next us' hus =>
        cases h
        intro w hw
        rcases List.mem_cons.mp hw with rfl | hw
        · obtain ⟨v, h1, h2⟩ := hc t (List.mem_cons_self ..)
          exact ⟨v, e_st_ev he hu h1, h2⟩
        · exact ek_C_ok he (fun t' ht' => hc t' (List.mem_cons_of_mem _ ht')) hus w hw
      · cases h
    · cases h
def ek_P (p : eP) (A : eS) (vs : List eT) (S : List eV) (K : eS → Bool) : Bool := match p.1 with
  | none => ek_F p.2.1 (es_S A S) vs (fun A vs => match ek_C vs p.2.2 with
    | some us => ea_asK A us K
    | none => false)
  | some t => ek_F p.2.1 (es_pv A t.1 t.2 S) (vs ++ [(ea_val A t.1 t.2).1.2]) (fun A vs => match ek_C vs p.2.2 with
    | some us => ea_asK A us K
    | none => false)
theorem ek_P_ok {c : eX} {h : pH} {K : eS → Bool} {p : eP} {ρ : List Int} {A : eS} {vs : List eT} {us zs : List Int} {S : List eV} {lv : List (Nat × pv)} {r : List pv} {rv : Option pv} (hb : b_R c ρ A h) (hl : l_R ρ A.2.2.2.2.1 lv) (hs : s_R ρ S r) (he : e_R ρ vs us) (hp : m_P p us rv h zs) (hk : ek_P p A vs S K = true) : ∃ ρ' A', ρ <+: ρ' ∧ r_R c ρ' A' lv (rv.toList ++ r) h ∧ K A' = true := by
  obtain ⟨p1, p2, p3⟩ := p
  obtain ⟨h1, h2⟩ := hp
  unfold ek_P at hk
  dsimp only at h1 h2 hk
  cases p1 with
  | none =>
    obtain ⟨rfl, ys, rfl, h3⟩ := h1
    obtain ⟨ρ1, A1, ws, k1, k2, k3, k4, k5⟩ := ek_F_ok (A := es_S A S) hb he h3 hk
    split at k4
    · next us' hus =>
      obtain ⟨A2, k6, k7, k8⟩ := ea_asK_ok k2 k4 (ek_C_ok k3 h2 hus)
      refine ⟨ρ1, A2, k1, ⟨k7, ?_, ?_⟩, k6⟩
      · rw [k8, k5]; exact l_R_mono k1 hl
      · rw [k8, k5]; exact s_R_mono k1 hs
    · cases k4
  | some t =>
    obtain ⟨v, x, ys, rfl, hv, rfl, h3⟩ := h1
    obtain ⟨v1, v2, v3⟩ := hv
    subst v2
    obtain ⟨ρ0, g1, g2, g3, g4, g5⟩ := ea_val_ok hb t.1 v3
    have e1 : (ea_val A t.1 t.2).1 = (t.1, (ea_val A t.1 t.2).1.2) := Prod.ext g3 rfl
    have gv : v_R ρ0 (ea_val A t.1 t.2).1 v := by
      rw [e1]
      exact v_R_mk v1 g4
    obtain ⟨ρ1, A1, ws, k1, k2, k3, k4, k5⟩ := ek_F_ok (A := es_pv A t.1 t.2 S) g2 (us := us ++ [cv v]) (e_R_app (e_R_mono g1 he) (us := [_]) ⟨g4, trivial⟩) h3 hk
    split at k4
    · next us' hus =>
      rw [List.append_assoc] at k3
      obtain ⟨A2, k6, k7, k8⟩ := ea_asK_ok k2 k4 (ek_C_ok k3 h2 hus)
      refine ⟨ρ1, A2, g1.trans k1, ⟨k7, ?_, ?_⟩, k6⟩
      · rw [k8, k5]
        show l_R ρ1 (ea_val A t.1 t.2).2.2.2.2.2.1 lv
        rw [g5]
        exact l_R_mono (g1.trans k1) hl
      · rw [k8, k5]
        exact ⟨v_R_mono k1 gv, s_R_mono (g1.trans k1) hs⟩
    · cases k4
/-! behind a call: what of the facts stays -/
def ef_keep (W : Nat) (F : List eF) : List eF := F.filter (fun f => match eL[f.1]? with
  | some t => match t.1 with
    | 0 => !(W.testBit (cn f.1 + f.2.1))
    | _ => !(W.testBit (cn f.1))
  | none => false)
theorem ef_keep_ok {ρ : List Int} {W : Nat} {F : List eF} {h h' : pH} (hF : f_F ρ F h) (hM : f_M W h h') : f_F ρ (ef_keep W F) h' := by
  intro f hf
  obtain ⟨hm, hd⟩ := List.mem_filter.mp hf
  obtain ⟨j, v, h1, h2, h3⟩ := hF f hm
  refine ⟨j, v, h1, ?_, h3⟩
  refine f_M_c hM h2 (fun t ht h0 => ?_) (fun t ht h0 => ?_)
  · rw [ht] at hd
    dsimp only at hd
    rw [h0] at hd
    have hd : (!(W.testBit (cn f.1 + f.2.1))) = true := hd
    rw [Bool.not_eq_true'] at hd
    exact hd
  · rw [ht] at hd
    dsimp only at hd
    split at hd
    · next e => exact absurd e h0
    · rw [Bool.not_eq_true'] at hd
      exact hd
/-- the state behind a call that wrote within V -/
theorem b_R_call {c : eX} {ρ : List Int} {A : eS} {h h' : pH} (hb : b_R c ρ A h) {V : Nat} (hV : c.2.2.2.1 &&& V = V) (hg : g_I c.1 h') (hx : c.2.1 h') (hM : f_M V h h') : b_R c ρ (es_F A (ef_keep V A.2.2.2.1)) h' :=
  ⟨hb.1, hb.2.1, hb.2.2.1, ef_keep_ok hb.2.2.2.1 hM, hg, hx, f_M_tr (by rw [Nat.and_comm]; exact hV) hb.2.2.2.2.2.2.1 hM, hb.2.2.2.2.2.2.2⟩
/-- a call by a contract: dd how much deeper the callee stands than the outermost frame -/
def ek_1 (G : Nat → eE) (W dd : Nat) (k : eK) (L : List (Nat × eV)) (A : eS) (S : List eV) (K : eS → Bool) : Option Bool := match ef_M G L A dd k.2.1 with
  | none => none
  | some q => some ((match e_st q.2 k.2.2.1 with
    | some u => ea_isle q.1.2.1 q.1.2.2.1 (ea_add u (dd, [(0, -1)])) 0
    | none => false) && Nat.beq (W &&& k.2.2.2.1) k.2.2.2.1 && xe_fl (ef_keep k.2.2.2.1 q.1.2.2.2.1) (fun F => k.2.2.2.2.all (fun p => ek_P p (es_F q.1 F) q.2 S K)))
theorem ek_1_ok {c : eX} {ρ : List Int} {A : eS} {h : pH} {lv lv' : List (Nat × pv)} {L : List (Nat × eV)} {S : List eV} {r vs : List pv} {K : eS → Bool} {dd d : Nat} {k : eK} (hlv : lv' = px_ar 0 vs) (hb : b_R c ρ A h) (hl : l_R ρ A.2.2.2.2.1 lv) (hL : l_R ρ L lv') (hs : s_R ρ S r) (hd : d + dd = c.2.2.2.2) (hT : c.2.2.2.2 ≤ 1000000) (hS : k_S c.1 c.2.1 k d) (hk : ek_1 c.1 c.2.2.2.1 dd k L A S K = some true) :
    ∃ n o, px_run eL n d none k.1 0 lv' [] h = some o ∧ ∃ ρ' A', ρ <+: ρ' ∧ r_R c ρ' A' lv (o.1.toList ++ r) o.2 ∧ K A' = true := by
  subst hlv
  unfold ek_1 at hk
  split at hk
  · cases hk
  · next q hq =>
    obtain ⟨A1, ws⟩ := q
    obtain ⟨ρ1, xs, ys, g1, g2, g3, g4, g5⟩ := ef_M_ok hb hL hd hq
    have hk := Option.some.inj hk
    dsimp only at hk
    rw [Bool.and_eq_true, Bool.and_eq_true, xe_fl_eq] at hk
    obtain ⟨⟨k1, k2⟩, k3⟩ := hk
    have hme : ∃ m, ev_t ((d : Int) :: (xs ++ ys)) k.2.2.1 m ∧ m ≤ d := by
      split at k1
      · next u hu =>
        obtain ⟨m, e1, e2⟩ := e_st_ok g4 hu
        have hv := ev_v g2.2.2.2.2.2.2.2
        have e3 : ev_t ρ1 ((dd : Int), [(0, -1)]) ((dd : Int) - c.2.2.2.2) := by
          have e4 := ev_add (ev_c (ρ := ρ1) (dd : Int)) (ev_sc (-1) hv)
          obtain ⟨y, z1, z2⟩ := e4
          refine ⟨-1 * (c.2.2.2.2 : Int), ?_, by show (dd : Int) - c.2.2.2.2 = (dd : Int) + -1 * (c.2.2.2.2 : Int); omega⟩
          exact ev_s_cons.mpr ⟨_, 0, ev_v_iff hv, rfl, by omega⟩
        have e5 := ea_isle_ok g2.2.1 g2.2.2.1 k1 (ev_add e2 e3)
        exact ⟨m, e1, by omega⟩
      · cases k1
    obtain ⟨m, m1, m2⟩ := hme
    obtain ⟨n, o, o1, o2, o3, o4, p, hp, zs, hP⟩ := hS vs h xs ys m g2.2.2.2.2.1 g2.2.2.2.2.2.1 g3 (by omega) m1 m2
    refine ⟨n, o, o1, ?_⟩
    have k4 := List.all_eq_true.mp k3 p hp
    have hb2 := b_R_call g2 (Nat.eq_of_beq_eq_true k2) o2 o3 o4
    obtain ⟨ρ2, A2, z1, z2, z3⟩ := ek_P_ok (A := es_F A1 (ef_keep k.2.2.2.1 A1.2.2.2.1)) hb2 (by show l_R ρ1 A1.2.2.2.2.1 lv; rw [g5]; exact l_R_mono g1 hl) (s_R_mono g1 hs) g4 hP k4
    exact ⟨ρ2, A2, g1.trans z1, z2, z3⟩
/-- the first contract that fits -/
def ek_all (G : Nat → eE) (W dd y : Nat) : List eK → List (Nat × eV) → eS → List eV → (eS → Bool) → Bool
  | [], _, _, _, _ => false
  | k :: ks, L, A, S, K => match (if Nat.beq k.1 y then ek_1 G W dd k L A S K else none) with
    | some b => b
    | none => ek_all G W dd y ks L A S K
theorem ek_all_ok {c : eX} {ρ : List Int} {A : eS} {h : pH} {lv : List (Nat × pv)} {L : List (Nat × eV)} {S : List eV} {r vs : List pv} {K : eS → Bool} {dd d y : Nat} (hb : b_R c ρ A h) (hl : l_R ρ A.2.2.2.2.1 lv) (hL : l_R ρ L (px_ar 0 vs)) (hs : s_R ρ S r) (hd : d + dd = c.2.2.2.2) (hT : c.2.2.2.2 ≤ 1000000) : ∀ {ks : List eK}, (∀ k ∈ ks, k_S c.1 c.2.1 k d) → ek_all c.1 c.2.2.2.1 dd y ks L A S K = true →
    ∃ n o, px_run eL n d none y 0 (px_ar 0 vs) [] h = some o ∧ ∃ ρ' A', ρ <+: ρ' ∧ r_R c ρ' A' lv (o.1.toList ++ r) o.2 ∧ K A' = true
  | [], _, hk => by cases hk
  | k :: ks, hS, hk => by
    unfold ek_all at hk
    split at hk
    · next b hb1 =>
      subst hk
      split at hb1
      · next hy =>
        have e := Nat.eq_of_beq_eq_true hy
        have g := ek_1_ok (lv' := px_ar 0 vs) rfl hb hl hL hs hd hT (hS k (List.mem_cons_self ..)) hb1
        rw [e] at g
        exact g
      · cases hb1
    · exact ek_all_ok hb hl hL hs hd hT (fun k' hk' => hS k' (List.mem_cons_of_mem _ hk')) hk
