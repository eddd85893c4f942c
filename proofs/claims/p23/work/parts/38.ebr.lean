/-! the reckoner with bounds: branches -/
def ea_asK (A : eS) (ts : List eT) (K : eS → Bool) : Bool := match ts with
  | [] => K A
  | t :: ts => ea_ft t (fun t => match ea_as A.2.1 A.2.2.1 t with
    | none => true
    | some p => ea_asK (es_E A p.1 p.2) ts K)
theorem ea_asK_ok {c : eX} {ρ : List Int} {h : pH} {K : eS → Bool} : ∀ {ts : List eT} {A : eS}, b_R c ρ A h → ea_asK A ts K = true → (∀ t ∈ ts, ∃ v, ev_t ρ t v ∧ v ≤ 0) → ∃ A', K A' = true ∧ b_R c ρ A' h ∧ A'.2.2.2.2 = A.2.2.2.2
  | [], A, hb, hk, _ => ⟨A, hk, hb, rfl⟩
  | t :: ts, A, hb, hk, ht => by
    obtain ⟨v, h1, h2⟩ := ht t (List.mem_cons_self ..)
    obtain ⟨e', C', h3, h4, h5⟩ := ea_as_ok hb.2.1 hb.2.2.1 h1 h2
    unfold ea_asK at hk
    rw [ea_ft_eq, h3] at hk
    obtain ⟨A', g1, g2, g3⟩ := ea_asK_ok (b_R_E hb h4 h5) hk (fun t' hm => ht t' (List.mem_cons_of_mem _ hm))
    exact ⟨A', g1, g2, g3⟩
def ea_cond (o : Jvm.ClassFile.Cond) (t : eT) (A : eS) (K : eS → Bool) : Bool := match o with
  | .lt => ea_asK A [ea_add t (1, [])] K
  | .ge => ea_asK A [ea_neg t] K
  | .gt => ea_asK A [ea_add (ea_neg t) (1, [])] K
  | .le => ea_asK A [t] K
  | .eq => ea_asK A [t, ea_neg t] K
  | .ne => match ea_lb A.2.1 t with
    | none => K A
    | some l => match ea_ub A.2.1 t with
      | none => K A
      | some u => if ea_le 1 l || ea_le u (-1) then K A else if ea_le 0 l then ea_asK A [ea_add (ea_neg t) (1, [])] K else if ea_le u 0 then ea_asK A [ea_add t (1, [])] K else match t.2 with
        | [_] => ea_asK A [ea_add t (1, [])] K && ea_asK A [ea_add (ea_neg t) (1, [])] K
        | _ => K A
def ec_P (o : Jvm.ClassFile.Cond) (v : Int) : Prop := match o with
  | .lt => v < 0
  | .ge => 0 ≤ v
  | .gt => 0 < v
  | .le => v ≤ 0
  | .eq => v = 0
  | .ne => v ≠ 0
theorem ea_cond_ok {c : eX} {ρ : List Int} {h : pH} {K : eS → Bool} {A : eS} {t : eT} {v : Int} (hb : b_R c ρ A h) (hv : ev_t ρ t v) {o : Jvm.ClassFile.Cond} (ho : ec_P o v) (hk : ea_cond o t A K = true) : ∃ A', K A' = true ∧ b_R c ρ A' h ∧ A'.2.2.2.2 = A.2.2.2.2 := by
  have one : ∀ {t' : eT} {w : Int}, ev_t ρ t' w → w ≤ 0 → ∀ s ∈ [t'], ∃ v, ev_t ρ s v ∧ v ≤ 0 := fun g1 g2 s hs => by
    rw [List.mem_singleton.mp hs]
    exact ⟨_, g1, g2⟩
  have a1 := ev_add hv (ev_c (ρ := ρ) 1)
  have a2 := ev_neg hv
  have a3 := ev_add a2 (ev_c (ρ := ρ) 1)
  cases o with
  | lt => exact ea_asK_ok hb hk (one a1 (by have : v < 0 := ho; omega))
  | ge => exact ea_asK_ok hb hk (one a2 (by have : 0 ≤ v := ho; omega))
  | gt => exact ea_asK_ok hb hk (one a3 (by have : 0 < v := ho; omega))
  | le => exact ea_asK_ok hb hk (one hv ho)
  | eq =>
    have ho : v = 0 := ho
    refine ea_asK_ok hb hk (fun s hs => ?_)
    rcases List.mem_cons.mp hs with rfl | hs
    · exact ⟨v, hv, by omega⟩
    · rw [List.mem_singleton.mp hs]
      exact ⟨_, a2, by omega⟩
  | ne =>
    have ho : v ≠ 0 := ho
    have refl : K A = true → ∃ A', K A' = true ∧ b_R c ρ A' h ∧ A'.2.2.2.2 = A.2.2.2.2 := fun g => ⟨A, g, hb, rfl⟩
    unfold ea_cond at hk
    dsimp only at hk
    split at hk
    · exact refl hk
    · next l hl =>
      have b1 := ea_lb_ok hb.2.1 hl hv
      split at hk
      · exact refl hk
      · next u hu =>
        have b2 := ea_ub_ok hb.2.1 hu hv
        split at hk
        · exact refl hk
        · split at hk
          · next h0 =>
            have h0 := ea_le_iff.mp h0
            exact ea_asK_ok hb hk (one a3 (by omega))
          · split at hk
            · next h0 =>
              have h0 := ea_le_iff.mp h0
              exact ea_asK_ok hb hk (one a1 (by omega))
            · split at hk
              · rw [Bool.and_eq_true] at hk
                rcases Int.lt_or_gt_of_ne ho with g | g
                · exact ea_asK_ok hb hk.1 (one a1 (by omega))
                · exact ea_asK_ok hb hk.2 (one a3 (by omega))
              · exact refl hk
def ec_ng (o : Jvm.ClassFile.Cond) : Jvm.ClassFile.Cond := match o with
  | .lt => .ge
  | .ge => .lt
  | .gt => .le
  | .le => .gt
  | .eq => .ne
  | .ne => .eq
theorem ec_ng_ok {o : Jvm.ClassFile.Cond} {v : Int} (h : ¬ ec_P o v) : ec_P (ec_ng o) v := by
  cases o with
  | lt => exact Int.not_lt.mp h
  | ge => exact Int.not_le.mp h
  | gt => exact Int.not_lt.mp h
  | le => exact Int.not_le.mp h
  | eq => exact h
  | ne =>
    have h : ¬ v ≠ 0 := h
    show v = 0
    omega
/-- both roads of a test -/
def ea_br (o : Jvm.ClassFile.Cond) (t : eT) (A : eS) (pc : Nat) (of : Int) (K : Nat → eS → Bool) : Bool := if ea_le 0 ((pc : Int) + of) then xe_f (px_tg pc of) (fun tg => xe_f (pc + 3) (fun nx => ea_cond o t A (K tg) && ea_cond (ec_ng o) t A (K nx))) else false
theorem ea_br_ok {c : eX} {ρ : List Int} {h : pH} {K : Nat → eS → Bool} {A : eS} {t : eT} {v : Int} {pc : Nat} {of : Int} (hb : b_R c ρ A h) (hv : ev_t ρ t v) {o : Jvm.ClassFile.Cond} (hk : ea_br o t A pc of K = true) : 0 ≤ (pc : Int) + of ∧ ((ec_P o v ∧ ∃ A', K (px_tg pc of) A' = true ∧ b_R c ρ A' h ∧ A'.2.2.2.2 = A.2.2.2.2) ∨ (¬ ec_P o v ∧ ∃ A', K (pc + 3) A' = true ∧ b_R c ρ A' h ∧ A'.2.2.2.2 = A.2.2.2.2)) := by
  unfold ea_br at hk
  split at hk
  · next h0 =>
    rw [xe_f_eq, xe_f_eq, Bool.and_eq_true] at hk
    refine ⟨ea_le_iff.mp h0, ?_⟩
    by_cases ho : ec_P o v
    · exact Or.inl ⟨ho, ea_cond_ok hb hv ho hk.1⟩
    · exact Or.inr ⟨ho, ea_cond_ok hb hv (ec_ng_ok ho) hk.2⟩
  · cases hk
def er_nz : List Nat → List Nat
  | [] => []
  | 0 :: l => er_nz l
  | (k + 1) :: l => (k + 1) :: er_nz l
theorem er_nz_ok : ∀ {l : List Nat} {n : Nat}, n ∈ l → n ≠ 0 → n ∈ er_nz l
  | [], _, h, _ => absurd h List.not_mem_nil
  | 0 :: l, n, h, h0 => by
    rcases List.mem_cons.mp h with rfl | h
    · exact absurd rfl h0
    · show n ∈ er_nz l
      exact er_nz_ok h h0
  | (k + 1) :: l, n, h, h0 => by
    rcases List.mem_cons.mp h with rfl | h
    · exact List.mem_cons_self ..
    · exact List.mem_cons_of_mem _ (er_nz_ok h h0)
def er_has0 : List Nat → Bool
  | [] => false
  | 0 :: _ => true
  | (_ + 1) :: l => er_has0 l
theorem er_has0_ok : ∀ {l : List Nat}, 0 ∈ l → er_has0 l = true
  | [], h => absurd h List.not_mem_nil
  | 0 :: _, _ => rfl
  | (k + 1) :: l, h => by
    rcases List.mem_cons.mp h with h | h
    · exact absurd h (Nat.succ_ne_zero k).symm
    · show er_has0 l = true
      exact er_has0_ok h
/-- a reference's set is made narrower -/
def er_nar (A : eS) (a : eV) (s : List Nat) : eS := match ea_g A.2.1 (er_sym a) with
  | some e => es_E A ((er_sym a, (e.1, e.2.1, s)) :: A.2.1) A.2.2.1
  | none => A
theorem er_nar_ok {c : eX} {ρ : List Int} {h : pH} {A : eS} {a : eV} {s : List Nat} {x : Int} (hb : b_R c ρ A h) (hx : ρ[er_sym a]? = some x) (hs : x.toNat ∈ s) : b_R c ρ (er_nar A a s) h ∧ (er_nar A a s).2.2.2.2 = A.2.2.2.2 := by
  unfold er_nar
  split
  · next e he =>
    refine ⟨b_R_E hb (fun q hq => ?_) hb.2.2.1, rfl⟩
    rcases List.mem_cons.mp hq with rfl | hq
    · obtain ⟨y, h1, h2⟩ := ea_g_ok hb.2.1 he
      rw [hx] at h1
      cases h1
      exact ⟨x, hx, h2.1, h2.2.1, Or.inr hs⟩
    · exact hb.2.1 q hq
  · exact ⟨hb, rfl⟩
/-- null, or not -/
def ah_nul (A : eS) (a : eV) (K0 K1 : eS → Bool) : Bool := match er_set A a with
  | [] => false
  | s => (match er_has0 s with
    | true => K0 (er_nar A a [0])
    | false => true) && xe_fl (er_nz s) (fun l => match l with
    | [] => true
    | l => K1 (er_nar A a l))
theorem ah_nul_ok {c : eX} {ρ : List Int} {h : pH} {A : eS} {a : eV} {v : pv} {K0 K1 : eS → Bool} (hb : b_R c ρ A h) (hv : v_R ρ a v) (hk : ah_nul A a K0 K1 = true) : ∃ A', b_R c ρ A' h ∧ A'.2.2.2.2 = A.2.2.2.2 ∧ ((v = .inr (.inr none) ∧ K0 A' = true) ∨ ∃ k, v = .inr (.inr (some k)) ∧ K1 A' = true) := by
  unfold ah_nul at hk
  split at hk
  · cases hk
  · next hne =>
    obtain ⟨x, rfl, h1, h2, -⟩ := er_set_ok hb hv hne
    rw [Bool.and_eq_true, xe_fl_eq] at hk
    match x, h1, h2 with
    | none, h1, h2 =>
      have h1 : (0 : Nat) ∈ er_set A a := h1
      rw [er_has0_ok h1] at hk
      obtain ⟨g1, g2⟩ := er_nar_ok (s := [0]) hb h2 (List.mem_singleton.mpr rfl)
      exact ⟨_, g1, g2, Or.inl ⟨rfl, hk.1⟩⟩
    | some k, h1, h2 =>
      have h3 := er_nz_ok h1 (by show ((k : Int) + 1).toNat ≠ 0; omega)
      obtain ⟨g1, g2⟩ := er_nar_ok hb h2 h3
      refine ⟨_, g1, g2, Or.inr ⟨k, rfl, ?_⟩⟩
      have hk := hk.2
      split at hk
      · next e => rw [e] at h3; exact absurd h3 List.not_mem_nil
      · exact hk
def ea_tsw (t : eT) (A : eS) (pc : Nat) (hi : Int) (K : Nat → eS → Bool) : List Int → Int → Bool
  | [], n => ea_le (hi + 1) n
  | o :: l, n => ea_le 0 ((pc : Int) + o) && xe_f (px_tg pc o) (fun tg => ea_asK A [ea_add t (-n, []), ea_add (ea_neg t) (n, [])] (K tg)) && ea_f (n + 1) (fun n => ea_tsw t A pc hi K l n)
theorem ea_tsw_ok {c : eX} {ρ : List Int} {h : pH} {A : eS} {t : eT} {v hi : Int} {pc : Nat} {K : Nat → eS → Bool} (hb : b_R c ρ A h) (hv : ev_t ρ t v) (hv2 : v ≤ hi) : ∀ {l : List Int} {n : Int}, n ≤ v → ea_tsw t A pc hi K l n = true → ∃ o, l[(v - n).toNat]? = some o ∧ 0 ≤ (pc : Int) + o ∧ ∃ A', K (px_tg pc o) A' = true ∧ b_R c ρ A' h ∧ A'.2.2.2.2 = A.2.2.2.2
  | [], n, hn, hk => by
    have := ea_le_iff.mp hk
    omega
  | o :: l, n, hn, hk => by
    unfold ea_tsw at hk
    rw [Bool.and_eq_true, Bool.and_eq_true, xe_f_eq, ea_f_eq] at hk
    obtain ⟨⟨h1, h2⟩, h3⟩ := hk
    by_cases e : v = n
    · subst e
      refine ⟨o, by rw [Int.sub_self]; rfl, ea_le_iff.mp h1, ea_asK_ok hb h2 (fun s hs => ?_)⟩
      rcases List.mem_cons.mp hs with rfl | hs
      · exact ⟨_, ev_add hv (ev_c _), by omega⟩
      · rw [List.mem_singleton.mp hs]
        exact ⟨_, ev_add (ev_neg hv) (ev_c _), by omega⟩
    · obtain ⟨o', g1, g2⟩ := ea_tsw_ok hb hv hv2 (n := n + 1) (by omega) h3
      refine ⟨o', ?_, g2⟩
      rw [show (v - n).toNat = (v - (n + 1)).toNat + 1 by omega]
      exact g1
def ah_1f (I : Jvm.ClassFile.Instr) : Nat → eS → (Nat → eS → Bool) → Bool := match I with
  | .goto o => fun pc A K => if ea_le 0 ((pc : Int) + o) then xe_f (px_tg pc o) (fun t => K t A) else false
  | .ifCond c o => fun pc A K => match A.2.2.2.2.2 with
    | a :: S => if Nat.beq a.1 0 || Nat.beq a.1 3 then ea_br c a.2 (es_S A S) pc o K else false
    | _ => false
  | .if_icmp c o => fun pc A K => match A.2.2.2.2.2 with
    | b :: a :: S => if Nat.beq a.1 0 && Nat.beq b.1 0 then ea_ft (ea_sub a.2 b.2) (fun t => ea_br c t (es_S A S) pc o K) else false
    | _ => false
  | .ifnull o => fun pc A K => match A.2.2.2.2.2 with
    | a :: S => if ea_le 0 ((pc : Int) + o) then xe_f (px_tg pc o) (fun t => xe_f (pc + 3) (fun nx => ah_nul (es_S A S) a (K t) (K nx))) else false
    | _ => false
  | .ifnonnull o => fun pc A K => match A.2.2.2.2.2 with
    | a :: S => if ea_le 0 ((pc : Int) + o) then xe_f (px_tg pc o) (fun t => xe_f (pc + 3) (fun nx => ah_nul (es_S A S) a (K nx) (K t))) else false
    | _ => false
  | .tableswitch df lo hi os => fun pc A K => match A.2.2.2.2.2 with
    | a :: S => if Nat.beq a.1 0 && ea_le 0 ((pc : Int) + df) then xe_f (px_tg pc df) (fun t => ea_asK (es_S A S) [ea_add a.2 (1 - lo, [])] (K t) && ea_asK (es_S A S) [ea_add (ea_neg a.2) (hi + 1, [])] (K t)) && ea_tsw a.2 (es_S A S) pc hi K os.toList lo else false
    | _ => false
  | _ => fun _ _ _ => false
theorem r_R_of {c : eX} {ρ : List Int} {A A' : eS} {lv : List (Nat × pv)} {st : List pv} {h : pH} (hb : b_R c ρ A' h) (he : A'.2.2.2.2 = A.2.2.2.2) (hl : l_R ρ A.2.2.2.2.1 lv) (hs : s_R ρ A.2.2.2.2.2 st) : r_R c ρ A' lv st h := ⟨hb, by rw [he]; exact hl, by rw [he]; exact hs⟩
theorem i32_lt0 {x : Int32} : x < 0 ↔ x.toInt < 0 := by rw [Int32.lt_iff_toInt_lt, Int32.toInt_zero]
theorem i32_gt0 {x : Int32} : 0 < x ↔ 0 < x.toInt := by rw [Int32.lt_iff_toInt_lt, Int32.toInt_zero]
theorem i32_eq0 {x : Int32} : x = 0 ↔ x.toInt = 0 := by rw [← Int32.toInt_inj, Int32.toInt_zero]
set_option maxHeartbeats 2000000 in
theorem ah_1_ok {c : eX} {ρ : List Int} {A : eS} {lv : List (Nat × pv)} {st : List pv} {h : pH} {I : Jvm.ClassFile.Instr} {pc : Nat} {K : Nat → eS → Bool} (hr : r_R c ρ A lv st h) (hk : ah_1f I pc A K = true) : ∃ t A', px_bf I pc st = some t ∧ r_R c ρ A' lv t.2 h ∧ K t.1 A' = true := by
  obtain ⟨hb, hl, hs⟩ := hr
  unfold ah_1f at hk
  split at hk <;> (try dsimp only at hk)
  · next o =>
    split at hk
    · next h0 =>
      rw [xe_f_eq] at hk
      refine ⟨(px_tg pc o, st), A, ?_, ⟨hb, hl, hs⟩, hk⟩
      show (if 0 ≤ (pc : Int) + o then some (px_tg pc o, st) else none) = _
      rw [if_pos (ea_le_iff.mp h0)]
    · cases hk
  · next cc o =>
    split at hk
    · next a S heq =>
      split at hk
      · next ht =>
        rw [heq] at hs
        obtain ⟨v, r, rfl, g1, g2⟩ := s_R_cons hs
        have hx : ∃ (x : Int32) (y : Int), v = .inl x ∧ ev_t ρ a.2 y ∧ (x.toInt < 0 ↔ y < 0) ∧ (x.toInt = 0 ↔ y = 0) := by
          rw [Bool.or_eq_true] at ht
          rcases ht with ht | ht
          · obtain ⟨x, e, hx⟩ := v_R_i (Nat.eq_of_beq_eq_true ht) g1
            exact ⟨x, _, e, hx, Iff.rfl, Iff.rfl⟩
          · unfold v_R at g1
            rw [if_pos (Nat.eq_of_beq_eq_true ht)] at g1
            obtain ⟨x, e, y, q1, q2⟩ := g1
            exact ⟨x, y, e, q1, q2⟩
        obtain ⟨x, y, rfl, hy, q1, q2⟩ := hx
        obtain ⟨h0, hh⟩ := ea_br_ok (A := es_S A S) hb hy hk
        rcases hh with ⟨p1, A', k1, k2, k3⟩ | ⟨p1, A', k1, k2, k3⟩
        · refine ⟨(px_tg pc o, r), A', ?_, r_R_of k2 k3 hl g2, k1⟩
          unfold px_bf
          dsimp only
          rw [if_pos h0]
          cases cc with
          | eq => exact if_pos (i32_eq0.mpr (q2.mpr p1))
          | ne => exact if_neg (fun z => p1 (q2.mp (i32_eq0.mp z)))
          | lt => exact if_pos (i32_lt0.mpr (q1.mpr p1))
          | ge => exact if_neg (fun z => by have z := q1.mp (i32_lt0.mp z); have p1 : 0 ≤ y := p1; omega)
          | gt => exact if_pos (i32_gt0.mpr (by have p1 : 0 < y := p1; omega))
          | le => exact if_neg (fun z => by have z := i32_gt0.mp z; have p1 : y ≤ 0 := p1; omega)
        · refine ⟨(pc + 3, r), A', ?_, r_R_of k2 k3 hl g2, k1⟩
          unfold px_bf
          dsimp only
          rw [if_pos h0]
          cases cc with
          | eq => exact if_neg (fun z => p1 (q2.mp (i32_eq0.mp z)))
          | ne => exact if_pos (i32_eq0.mpr (q2.mpr (by have p1 : ¬ y ≠ 0 := p1; omega)))
          | lt => exact if_neg (fun z => p1 (q1.mp (i32_lt0.mp z)))
          | ge => exact if_pos (i32_lt0.mpr (q1.mpr (Int.not_le.mp p1)))
          | gt => exact if_neg (fun z => by have z := i32_gt0.mp z; have p1 : ¬ 0 < y := p1; omega)
          | le => exact if_pos (i32_gt0.mpr (by have p1 : ¬ y ≤ 0 := p1; omega))
      · cases hk
    · cases hk
  · next cc o =>
    split at hk
    · next b a S heq =>
      split at hk
      · next ht =>
        rw [Bool.and_eq_true] at ht
        rw [heq] at hs
        obtain ⟨v1, r1, rfl, g1, g2⟩ := s_R_cons hs
        obtain ⟨v2, r, rfl, g3, g4⟩ := s_R_cons g2
        obtain ⟨y, rfl, hy⟩ := v_R_i (Nat.eq_of_beq_eq_true ht.2) g1
        obtain ⟨x, rfl, hx⟩ := v_R_i (Nat.eq_of_beq_eq_true ht.1) g3
        rw [ea_ft_eq] at hk
        obtain ⟨h0, hh⟩ := ea_br_ok (A := es_S A S) hb (ev_sub hx hy) hk
        have il : ∀ {x y : Int32}, x < y ↔ x.toInt - y.toInt < 0 := fun {x y} => by rw [Int32.lt_iff_toInt_lt]; omega
        have ie : x = y ↔ x.toInt - y.toInt = 0 := by rw [← Int32.toInt_inj]; omega
        have ig : y < x ↔ 0 < x.toInt - y.toInt := by rw [Int32.lt_iff_toInt_lt]; omega
        rcases hh with ⟨p1, A', k1, k2, k3⟩ | ⟨p1, A', k1, k2, k3⟩
        · refine ⟨(px_tg pc o, r), A', ?_, r_R_of k2 k3 hl g4, k1⟩
          unfold px_bf
          dsimp only
          rw [if_pos h0]
          cases cc with
          | eq => exact if_pos (ie.mpr p1)
          | ne => exact if_neg (fun z => p1 (ie.mp z))
          | lt => exact if_pos (il.mpr p1)
          | ge => exact if_neg (fun z => by have z := il.mp z; have p1 : 0 ≤ x.toInt - y.toInt := p1; omega)
          | gt => exact if_pos (ig.mpr p1)
          | le => exact if_neg (fun z => by have z := ig.mp z; have p1 : x.toInt - y.toInt ≤ 0 := p1; omega)
        · refine ⟨(pc + 3, r), A', ?_, r_R_of k2 k3 hl g4, k1⟩
          unfold px_bf
          dsimp only
          rw [if_pos h0]
          cases cc with
          | eq => exact if_neg (fun z => p1 (ie.mp z))
          | ne => exact if_pos (ie.mpr (by have p1 : ¬ x.toInt - y.toInt ≠ 0 := p1; omega))
          | lt => exact if_neg (fun z => p1 (il.mp z))
          | ge => exact if_pos (il.mpr (Int.not_le.mp p1))
          | gt => exact if_neg (fun z => p1 (ig.mp z))
          | le => exact if_pos (ig.mpr (Int.not_le.mp p1))
      · cases hk
    · cases hk
  · next o =>
    split at hk
    · next a S heq =>
      split at hk
      · next h0 =>
        have h0 := ea_le_iff.mp h0
        rw [xe_f_eq, xe_f_eq] at hk
        rw [heq] at hs
        obtain ⟨v, r, rfl, g1, g2⟩ := s_R_cons hs
        obtain ⟨A', k1, k2, k3⟩ := ah_nul_ok (A := es_S A S) hb g1 hk
        rcases k3 with ⟨rfl, k3⟩ | ⟨k, rfl, k3⟩
        · refine ⟨(px_tg pc o, r), A', ?_, r_R_of k1 k2 hl g2, k3⟩
          show (if 0 ≤ (pc : Int) + o then some (px_tg pc o, r) else none) = _
          rw [if_pos h0]
        · exact ⟨(pc + 3, r), A', rfl, r_R_of k1 k2 hl g2, k3⟩
      · cases hk
    · cases hk
  · next o =>
    split at hk
    · next a S heq =>
      split at hk
      · next h0 =>
        have h0 := ea_le_iff.mp h0
        rw [xe_f_eq, xe_f_eq] at hk
        rw [heq] at hs
        obtain ⟨v, r, rfl, g1, g2⟩ := s_R_cons hs
        obtain ⟨A', k1, k2, k3⟩ := ah_nul_ok (A := es_S A S) hb g1 hk
        rcases k3 with ⟨rfl, k3⟩ | ⟨k, rfl, k3⟩
        · exact ⟨(pc + 3, r), A', rfl, r_R_of k1 k2 hl g2, k3⟩
        · refine ⟨(px_tg pc o, r), A', ?_, r_R_of k1 k2 hl g2, k3⟩
          show (if 0 ≤ (pc : Int) + o then some (px_tg pc o, r) else none) = _
          rw [if_pos h0]
      · cases hk
    · cases hk
  · next df lo hi os =>
    split at hk
    · next a S heq =>
      split at hk
      · next h0 =>
        rw [Bool.and_eq_true] at h0
        have h1 := ea_le_iff.mp h0.2
        rw [heq] at hs
        obtain ⟨v, r, rfl, g1, g2⟩ := s_R_cons hs
        obtain ⟨x, rfl, hx⟩ := v_R_i (Nat.eq_of_beq_eq_true h0.1) g1
        rw [Bool.and_eq_true, xe_f_eq, Bool.and_eq_true] at hk
        obtain ⟨⟨k1, k2⟩, k3⟩ := hk
        by_cases ho : x.toInt < lo ∨ hi < x.toInt
        · have dd : ∃ A', K (px_tg pc df) A' = true ∧ b_R c ρ A' h ∧ A'.2.2.2.2 = (es_S A S).2.2.2.2 := by
            rcases ho with ho | ho
            · exact ea_asK_ok (A := es_S A S) hb k1 (fun s hs => by
                rw [List.mem_singleton.mp hs]
                exact ⟨_, ev_add hx (ev_c _), by omega⟩)
            · exact ea_asK_ok (A := es_S A S) hb k2 (fun s hs => by
                rw [List.mem_singleton.mp hs]
                exact ⟨_, ev_add (ev_neg hx) (ev_c _), by omega⟩)
          obtain ⟨A', q1, q2, q3⟩ := dd
          refine ⟨(px_tg pc df, r), A', ?_, r_R_of q2 q3 hl g2, q1⟩
          unfold px_bf
          dsimp only
          rw [if_pos ho, if_pos h1]
        · have n1 : lo ≤ x.toInt := by omega
          have n2 : x.toInt ≤ hi := by omega
          obtain ⟨o, e1, e2, A', q1, q2, q3⟩ := ea_tsw_ok (A := es_S A S) hb hx n2 n1 k3
          refine ⟨(px_tg pc o, r), A', ?_, r_R_of q2 q3 hl g2, q1⟩
          unfold px_bf
          dsimp only
          rw [if_neg ho, ← Array.getElem?_toList, e1]
          dsimp only
          rw [if_pos e2]
      · cases hk
    · cases hk
  · cases hk
