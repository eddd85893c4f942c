/-! the reckoner with bounds: stores into places of the frame -/
def al_s1 (i : Nat) (a : eV) (l : List (Nat × eV)) : List (Nat × eV) := (i, a) :: l.filter (fun p => !(Nat.beq p.1 i) && !(Nat.beq (p.1 + 1) i && Nat.beq p.2.1 1))
def al_s2 (i : Nat) (a : eV) (l : List (Nat × eV)) : List (Nat × eV) := (i, a) :: l.filter (fun p => !(Nat.beq p.1 i) && (!(Nat.beq p.1 (i + 1)) && !(Nat.beq (p.1 + 1) i && Nat.beq p.2.1 1)))
theorem px_lg_f {f : Nat × pv → Bool} : ∀ {l : List (Nat × pv)} {j : Nat} {v : pv}, px_lg l j = some v → f (j, v) = true → px_lg (l.filter f) j = some v
  | [], _, _, h, _ => by cases h
  | q :: l, j, v, h, hf => by
    unfold px_lg at h
    by_cases e : q.1 = j
    · rw [if_pos (by rw [e]; exact beq_self_eq_true j)] at h
      cases h
      subst e
      rw [List.filter_cons_of_pos hf]
      unfold px_lg
      rw [if_pos (beq_self_eq_true q.1)]
    · rw [if_neg (fun z => e (eq_of_beq z))] at h
      have ih := px_lg_f h hf
      by_cases hq : f q = true
      · rw [List.filter_cons_of_pos hq]
        unfold px_lg
        rw [if_neg (fun z => e (eq_of_beq z))]
        exact ih
      · rw [List.filter_cons_of_neg hq]
        exact ih
theorem pc2_1 {ρ : List Int} {a : eV} {v : pv} (h : v_R ρ a v) (h1 : pc2 v = true) : a.1 = 1 := by
  by_cases e : a.1 = 1
  · exact e
  · rw [pc2_ct h e] at h1
    cases h1
theorem al_s1_ok {ρ : List Int} {L : List (Nat × eV)} {lv : List (Nat × pv)} (hl : l_R ρ L lv) {i : Nat} {a : eV} {v : pv} (hv : v_R ρ a v) : l_R ρ (al_s1 i a L) (px_s1 lv i v) := by
  intro p hp
  rcases List.mem_cons.mp hp with rfl | hp
  · refine ⟨v, ?_, hv⟩
    show (if (i == i) then some v else _) = some v
    rw [if_pos (beq_self_eq_true i)]
  · obtain ⟨hm, hf⟩ := List.mem_filter.mp hp
    obtain ⟨w, h1, h2⟩ := hl p hm
    refine ⟨w, ?_, h2⟩
    rw [Bool.and_eq_true, Bool.not_eq_true', Bool.not_eq_true'] at hf
    obtain ⟨f1, f2⟩ := hf
    have n1 : p.1 ≠ i := fun e => by rw [e, Nat.beq_refl] at f1; cases f1
    show (if (i == p.1) then some v else px_lg (lv.filter _) p.1) = some w
    rw [if_neg (fun z => n1 (eq_of_beq z).symm)]
    refine px_lg_f h1 ?_
    show (!(p.1 == i) && !(p.1 + 1 == i && pc2 w)) = true
    rw [Bool.and_eq_true, Bool.not_eq_true', Bool.not_eq_true']
    refine ⟨beq_eq_false_iff_ne.mpr n1, ?_⟩
    rw [Bool.eq_false_iff]
    intro z
    rw [Bool.and_eq_true] at z
    rw [eq_of_beq z.1, Nat.beq_refl, pc2_1 h2 z.2] at f2
    cases f2
theorem al_s2_ok {ρ : List Int} {L : List (Nat × eV)} {lv : List (Nat × pv)} (hl : l_R ρ L lv) {i : Nat} {a : eV} {v : pv} (hv : v_R ρ a v) : l_R ρ (al_s2 i a L) (px_s2 lv i v) := by
  intro p hp
  rcases List.mem_cons.mp hp with rfl | hp
  · refine ⟨v, ?_, hv⟩
    show (if (i == i) then some v else _) = some v
    rw [if_pos (beq_self_eq_true i)]
  · obtain ⟨hm, hf⟩ := List.mem_filter.mp hp
    obtain ⟨w, h1, h2⟩ := hl p hm
    refine ⟨w, ?_, h2⟩
    rw [Bool.and_eq_true, Bool.and_eq_true, Bool.not_eq_true', Bool.not_eq_true', Bool.not_eq_true'] at hf
    obtain ⟨f1, f3, f2⟩ := hf
    have n1 : p.1 ≠ i := fun e => by rw [e, Nat.beq_refl] at f1; cases f1
    have n2 : p.1 ≠ i + 1 := fun e => by rw [e, Nat.beq_refl] at f3; cases f3
    show (if (i == p.1) then some v else px_lg (lv.filter _) p.1) = some w
    rw [if_neg (fun z => n1 (eq_of_beq z).symm)]
    refine px_lg_f h1 ?_
    show (!(p.1 == i) && (!(p.1 == i + 1) && !(p.1 + 1 == i && pc2 w))) = true
    rw [Bool.and_eq_true, Bool.and_eq_true, Bool.not_eq_true', Bool.not_eq_true', Bool.not_eq_true']
    refine ⟨beq_eq_false_iff_ne.mpr n1, beq_eq_false_iff_ne.mpr n2, ?_⟩
    rw [Bool.eq_false_iff]
    intro z
    rw [Bool.and_eq_true] at z
    rw [eq_of_beq z.1, Nat.beq_refl, pc2_1 h2 z.2] at f2
    cases f2
def ah_st (n L i : Nat) (A : eS) : Option eS := match A.2.2.2.2.2 with
  | a :: r => if Nat.beq a.1 n && Nat.ble (i + 1) L then xe_fl (al_s1 i a A.2.2.2.2.1) (fun l => some (es_L A l r)) else none
  | _ => none
def ah_st2 (L i : Nat) (A : eS) : Option eS := match A.2.2.2.2.2 with
  | a :: r => if Nat.beq a.1 1 && Nat.ble (i + 2) L then xe_fl (al_s2 i a A.2.2.2.2.1) (fun l => some (es_L A l r)) else none
  | _ => none
theorem ah_st_ok {c : eX} {ρ : List Int} {A A' : eS} {lv : List (Nat × pv)} {st : List pv} {h : pH} (hr : r_R c ρ A lv st h) {n L i : Nat} (hA : ah_st n L i A = some A') : ∃ v r a, st = v :: r ∧ v_R ρ a v ∧ a.1 = n ∧ i < L ∧ r_R c ρ A' (px_s1 lv i v) r h := by
  obtain ⟨hb, hl, hs⟩ := hr
  unfold ah_st at hA
  split at hA
  · next a S heq =>
    split at hA
    · next hh =>
      rw [Bool.and_eq_true] at hh
      rw [xe_fl_eq] at hA
      cases hA
      rw [heq] at hs
      obtain ⟨v, r, rfl, g1, g2⟩ := s_R_cons hs
      exact ⟨v, r, a, rfl, g1, Nat.eq_of_beq_eq_true hh.1, Nat.le_of_ble_eq_true hh.2, hb, al_s1_ok hl g1, g2⟩
    · cases hA
  · cases hA
theorem ah_st2_ok {c : eX} {ρ : List Int} {A A' : eS} {lv : List (Nat × pv)} {st : List pv} {h : pH} (hr : r_R c ρ A lv st h) {L i : Nat} (hA : ah_st2 L i A = some A') : ∃ v r a, st = v :: r ∧ v_R ρ a v ∧ a.1 = 1 ∧ i + 1 < L ∧ r_R c ρ A' (px_s2 lv i v) r h := by
  obtain ⟨hb, hl, hs⟩ := hr
  unfold ah_st2 at hA
  split at hA
  · next a S heq =>
    split at hA
    · next hh =>
      rw [Bool.and_eq_true] at hh
      rw [xe_fl_eq] at hA
      cases hA
      rw [heq] at hs
      obtain ⟨v, r, rfl, g1, g2⟩ := s_R_cons hs
      exact ⟨v, r, a, rfl, g1, Nat.eq_of_beq_eq_true hh.1, Nat.le_of_ble_eq_true hh.2, hb, al_s2_ok hl g1, g2⟩
    · cases hA
  · cases hA
def ah_2f (I : Jvm.ClassFile.Instr) : Nat → eS → Option eS := match I with
  | .istore i => fun L A => ah_st 0 L i A
  | .istore_n i => fun L A => ah_st 0 L (i : Nat) A
  | .astore i => fun L A => ah_st 2 L i A
  | .astore_n i => fun L A => ah_st 2 L (i : Nat) A
  | .lstore i => fun L A => ah_st2 L i A
  | .lstore_n i => fun L A => ah_st2 L (i : Nat) A
  | .iinc i n => fun L A => match al_g A.2.2.2.2.1 i with
    | some a => if Nat.beq a.1 0 && ea_le (-32768) n && ea_le n 32767 then ah_st 0 L i (es_lin A 0 (ea_add a.2 (n, [])) A.2.2.2.2.2) else none
    | none => none
  | _ => fun _ _ => none
theorem ah_2_ok {c : eX} {ρ : List Int} {A A' : eS} {lv : List (Nat × pv)} {st : List pv} {h : pH} {I : Jvm.ClassFile.Instr} {L : Nat} (hr : r_R c ρ A lv st h) (hA : ah_2f I L A = some A') : ∃ w ρ', px_of I L lv st = some w ∧ ρ <+: ρ' ∧ r_R c ρ' A' w.1 w.2 h := by
  have ti : ∀ {i : Nat}, ah_st 0 L i A = some A' → ∃ w ρ', px_ti L i lv st = some w ∧ ρ <+: ρ' ∧ r_R c ρ' A' w.1 w.2 h := by
    intro i hA
    obtain ⟨v, r, a, rfl, g1, g2, g3, g4⟩ := ah_st_ok hr hA
    obtain ⟨x, rfl, -⟩ := v_R_i g2 g1
    refine ⟨(px_s1 lv i (.inl x), r), ρ, ?_, List.prefix_rfl, g4⟩
    unfold px_ti
    dsimp only
    rw [if_pos g3]
  have ta : ∀ {i : Nat}, ah_st 2 L i A = some A' → ∃ w ρ', px_ta L i lv st = some w ∧ ρ <+: ρ' ∧ r_R c ρ' A' w.1 w.2 h := by
    intro i hA
    obtain ⟨v, r, a, rfl, g1, g2, g3, g4⟩ := ah_st_ok hr hA
    obtain ⟨x, rfl, -⟩ := v_R_r g2 g1
    refine ⟨(px_s1 lv i (.inr (.inr x)), r), ρ, ?_, List.prefix_rfl, g4⟩
    unfold px_ta
    dsimp only
    rw [if_pos g3]
  have tl : ∀ {i : Nat}, ah_st2 L i A = some A' → ∃ w ρ', px_tl L i lv st = some w ∧ ρ <+: ρ' ∧ r_R c ρ' A' w.1 w.2 h := by
    intro i hA
    obtain ⟨v, r, a, rfl, g1, g2, g3, g4⟩ := ah_st2_ok hr hA
    obtain ⟨x, rfl, -⟩ := v_R_l g2 g1
    refine ⟨(px_s2 lv i (.inr (.inl x)), r), ρ, ?_, List.prefix_rfl, g4⟩
    unfold px_tl
    dsimp only
    rw [if_pos g3]
  unfold ah_2f at hA
  split at hA <;> (try dsimp only at hA)
  · exact ti hA
  · exact ti hA
  · exact ta hA
  · exact ta hA
  · exact tl hA
  · exact tl hA
  · next i n =>
    split at hA
    · next a ha =>
      split at hA
      · next hh =>
        rw [Bool.and_eq_true, Bool.and_eq_true, ea_le_iff, ea_le_iff] at hh
        obtain ⟨⟨h1, h2⟩, h3⟩ := hh
        obtain ⟨v, q1, q2⟩ := hr.2.1 _ (al_g_ok ha)
        obtain ⟨x, rfl, hx⟩ := v_R_i (Nat.eq_of_beq_eq_true h1) q2
        have en : (Int32.ofInt n).toInt = n := Int32.toInt_ofInt_of_le (by omega) (by omega)
        obtain ⟨ρ', p1, p2⟩ := es_lin_ok hr.1 hr.2.1 hr.2.2 (v := .inl (x + Int32.ofInt n)) (w := 0) (by decide) rfl (ev_add hx (ev_c n)) (fun g1 g2 => by
          have g1 : -2147483648 ≤ x.toInt + n := g1
          have g2 : x.toInt + n ≤ 2147483647 := g2
          show (x + Int32.ofInt n).toInt = _
          rw [Jvm.Kit.i32_add (by omega) (by omega), en])
        obtain ⟨v', r', a', e1, g1, g2, g3, g4⟩ := ah_st_ok p2 hA
        cases e1
        refine ⟨(px_s1 lv i (.inl (x + Int32.ofInt n)), st), ρ', ?_, p1, g4⟩
        unfold px_of
        dsimp only
        rw [q1]
        dsimp only
        rw [if_pos g3]
      · cases hA
    · cases hA
  · cases hA
