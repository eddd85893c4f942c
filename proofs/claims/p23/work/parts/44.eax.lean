/-! the reckoner with bounds: runs -/
def t_X (d μ pc : Nat) (lv : List (Nat × pv)) (st : List pv) (h : pH) (P : Option pv × pH → Prop) : Prop := ∃ n o, px_run eL n d none μ pc lv st h = some o ∧ P o
theorem px_run_s {n d μ pc : Nat} {lv : List (Nat × pv)} {st : List pv} {h : pH} {q : xe_I} (hq : xe_look (xc μ) pc = some q) : px_run eL (n + 1) d none μ pc lv st h = px_step eL d none μ (fun pc2 lv2 st2 h2 => px_run eL n d none μ pc2 lv2 st2 h2) (fun y vs h2 => px_run eL n (d - 1) none y 0 (px_ar 0 vs) [] h2) q pc lv st h := by
  show (match xe_look (xc μ) pc with
    | some q => px_step eL d none μ (fun pc2 lv2 st2 h2 => px_run eL n d none μ pc2 lv2 st2 h2) (fun y vs h2 => px_run eL n (d - 1) none y 0 (px_ar 0 vs) [] h2) q pc lv st h
    | none => none) = _
  rw [hq]
section TX
variable {d μ pc : Nat} {lv : List (Nat × pv)} {st : List pv} {h : pH} {P : Option pv × pH → Prop} {q : xe_I}
theorem t_0 (hq : xe_look (xc μ) pc = some q) (hk : px_kd q.1 q.2.2.1 = 0) {st2 : List pv} (h1 : px_push eL d none q.1 q.2.2.1 q.2.2.2.1 lv st h = some st2) (ht : t_X d μ (pc + q.2.1) lv st2 h P) : t_X d μ pc lv st h P := by
  obtain ⟨n, o, h2, h3⟩ := ht
  refine ⟨n + 1, o, ?_, h3⟩
  rw [px_run_s hq]
  unfold px_step
  rw [hk]
  rw [show px_sd 0 = px_h0 from rfl]
  unfold px_h0
  rw [h1]
  exact h2
theorem t_1 (hq : xe_look (xc μ) pc = some q) (hk : px_kd q.1 q.2.2.1 = 1) {t : Nat × List pv} (h1 : px_bf q.1 pc st = some t) (ht : t_X d μ t.1 lv t.2 h P) : t_X d μ pc lv st h P := by
  obtain ⟨n, o, h2, h3⟩ := ht
  refine ⟨n + 1, o, ?_, h3⟩
  rw [px_run_s hq]
  unfold px_step
  rw [hk]
  rw [show px_sd 1 = px_h1 from rfl]
  unfold px_h1
  rw [h1]
  exact h2
theorem t_2 (hq : xe_look (xc μ) pc = some q) (hk : px_kd q.1 q.2.2.1 = 2) {w : List (Nat × pv) × List pv} (h1 : px_of q.1 (xm μ).2.2.1 lv st = some w) (ht : t_X d μ (pc + q.2.1) w.1 w.2 h P) : t_X d μ pc lv st h P := by
  obtain ⟨n, o, h2, h3⟩ := ht
  refine ⟨n + 1, o, ?_, h3⟩
  rw [px_run_s hq]
  unfold px_step
  rw [hk]
  rw [show px_sd 2 = px_h2 from rfl]
  unfold px_h2
  rw [h1]
  exact h2
theorem t_3 (hq : xe_look (xc μ) pc = some q) (hk : px_kd q.1 q.2.2.1 = 3) {ar : List pv × List pv} (h1 : px_cal eL q.1 q.2.2.1 q.2.2.2.1 st = some ar) (hc : 1 ≤ d ∧ px_sum ar.2 ≤ 8 ∧ px_sum ar.1 ≤ (xm q.2.2.2.1).2.2.1 ∧ (xm q.2.2.2.1).2.2.2.2.1 = (0, 0)) (ht : t_X (d - 1) q.2.2.2.1 0 (px_ar 0 ar.1) [] h (fun o => t_X d μ (pc + 3) lv (o.1.toList ++ ar.2) o.2 P)) : t_X d μ pc lv st h P := by
  obtain ⟨n1, o1, g1, n2, o2, g2, g3⟩ := ht
  refine ⟨max n1 n2 + 1, o2, ?_, g3⟩
  rw [px_run_s hq]
  unfold px_step
  rw [hk]
  rw [show px_sd 3 = px_h3 from rfl]
  unfold px_h3
  rw [h1]
  dsimp only
  rw [if_pos hc, px_run_le eL (Nat.le_max_left n1 n2) g1]
  exact px_run_le eL (Nat.le_max_right n1 n2) g2
theorem t_4 (hq : xe_look (xc μ) pc = some q) (hk : px_kd q.1 q.2.2.1 = 4) {w : List pv × pH} (h1 : px_wf q.1 eL d q.2.2.1 q.2.2.2.1 st h = some w) (ht : t_X d μ (pc + q.2.1) lv w.1 w.2 P) : t_X d μ pc lv st h P := by
  obtain ⟨n, o, h2, h3⟩ := ht
  refine ⟨n + 1, o, ?_, h3⟩
  rw [px_run_s hq]
  unfold px_step
  rw [hk]
  rw [show px_sd 4 = px_h4 from rfl]
  unfold px_h4
  rw [h1]
  exact h2
theorem t_5 (hq : xe_look (xc μ) pc = some q) (hk : px_kd q.1 q.2.2.1 = 5) {r : Option pv} (h1 : px_ret (xm μ).2.2.2.1 q.1 st = some r) (ht : P (r, h)) : t_X d μ pc lv st h P := by
  refine ⟨1, (r, h), ?_, ht⟩
  rw [px_run_s hq]
  unfold px_step
  rw [hk]
  rw [show px_sd 5 = px_h5 from rfl]
  unfold px_h5
  rw [h1]
theorem t_6 (hq : xe_look (xc μ) pc = some q) (hk : px_kd q.1 q.2.2.1 = 7) {st2 : List pv} (h1 : px_ixo d q.2.2.1 st = some st2) (ht : t_X d μ (pc + 3) lv st2 h P) : t_X d μ pc lv st h P := by
  obtain ⟨n, o, h2, h3⟩ := ht
  refine ⟨n + 1, o, ?_, h3⟩
  rw [px_run_s hq]
  unfold px_step
  rw [hk]
  rw [show px_sd 7 = px_h6 from rfl]
  unfold px_h6
  rw [h1]
  exact h2
end TX
/-! arguments of calls -/
theorem s_R_len {ρ : List Int} : ∀ {S : List eV} {st : List pv}, s_R ρ S st → S.length = st.length
  | [], [], _ => rfl
  | a :: S, v :: st, h => congrArg (· + 1) (s_R_len h.2)
theorem s_R_take {ρ : List Int} : ∀ {n : Nat} {S : List eV} {st : List pv}, s_R ρ S st → s_R ρ (S.take n) (st.take n)
  | 0, S, st, _ => by rw [List.take_zero, List.take_zero]; trivial
  | n + 1, [], [], _ => trivial
  | n + 1, a :: S, v :: st, h => ⟨h.1, s_R_take (n := n) h.2⟩
theorem s_R_drop {ρ : List Int} : ∀ {n : Nat} {S : List eV} {st : List pv}, s_R ρ S st → s_R ρ (S.drop n) (st.drop n)
  | 0, S, st, h => h
  | n + 1, [], [], _ => trivial
  | n + 1, a :: S, v :: st, h => s_R_drop (n := n) h.2
theorem s_R_app {ρ : List Int} : ∀ {S T : List eV} {st tt : List pv}, s_R ρ S st → s_R ρ T tt → s_R ρ (S ++ T) (st ++ tt)
  | [], T, [], tt, _, h => h
  | a :: S, T, v :: st, tt, h1, h => ⟨h1.1, s_R_app h1.2 h⟩
theorem s_R_rev {ρ : List Int} : ∀ {S : List eV} {st : List pv}, s_R ρ S st → s_R ρ S.reverse st.reverse
  | [], [], _ => trivial
  | a :: S, v :: st, h => by
    rw [List.reverse_cons, List.reverse_cons]
    exact s_R_app (s_R_rev h.2) ⟨h.1, trivial⟩
def ea_ar : Nat → List eV → List (Nat × eV)
  | _, [] => []
  | i, a :: l => (i, a) :: ea_ar (match a.1 with
    | 1 => i + 2
    | _ => i + 1) l
theorem ea_ar_ge : ∀ {S : List eV} {i : Nat} {p : Nat × eV}, p ∈ ea_ar i S → i ≤ p.1
  | [], _, _, h => absurd h List.not_mem_nil
  | a :: S, i, p, h => by
    rcases List.mem_cons.mp h with rfl | h
    · exact Nat.le_refl _
    · have := ea_ar_ge h
      split at this <;> omega
theorem ea_ar_ok {ρ : List Int} : ∀ {S : List eV} {st : List pv} {i : Nat}, s_R ρ S st → l_R ρ (ea_ar i S) (px_ar i st)
  | [], [], _, _ => fun p h => absurd h List.not_mem_nil
  | a :: S, v :: st, i, h => by
    have e : (if pc2 v then i + 2 else i + 1) = (match a.1 with
      | 1 => i + 2
      | _ => i + 1) := by
      by_cases h1 : a.1 = 1
      · obtain ⟨x, rfl, -⟩ := v_R_l h1 h.1
        rw [h1]
        rfl
      · rw [pc2_ct h.1 h1, if_neg (fun e => by cases e)]
        generalize a.1 = n at h1 ⊢
        match n, h1 with
        | 0, _ => rfl
        | 1, h1 => exact absurd rfl h1
        | n + 2, _ => rfl
    have ih : l_R ρ (ea_ar (match a.1 with
      | 1 => i + 2
      | _ => i + 1) S) (px_ar (if pc2 v then i + 2 else i + 1) st) := by
      rw [e]
      exact ea_ar_ok h.2
    intro p hp
    rcases List.mem_cons.mp hp with rfl | hp
    · refine ⟨v, ?_, h.1⟩
      show (if (i == i) then some v else _) = _
      rw [if_pos (beq_self_eq_true i)]
    · obtain ⟨w, h1, h2⟩ := ih p hp
      refine ⟨w, ?_, h2⟩
      have hge := ea_ar_ge hp
      show (if (i == p.1) then some v else px_lg (px_ar (if pc2 v then i + 2 else i + 1) st) p.1) = _
      rw [if_neg (fun z => by
        have z := eq_of_beq z
        split at hge <;> omega)]
      exact h1
def ah_cal (I : Jvm.ClassFile.Instr) (x y : Nat) (A : eS) : Option (List eV × List eV) := match I with
  | .invokestatic _ => if (Nat.beq x 0 || Nat.beq x 1) && Nat.beq (xm y).2.2.2.2.2.2.2 0 && Nat.ble (xm y).2.2.2.2.2.1 A.2.2.2.2.2.length then some ((A.2.2.2.2.2.take (xm y).2.2.2.2.2.1).reverse, A.2.2.2.2.2.drop (xm y).2.2.2.2.2.1) else none
  | .invokevirtual _ => if Nat.beq x 0 && Nat.beq (xm y).2.2.2.2.2.2.2 1 && Nat.ble (xm y).2.2.2.2.2.1 A.2.2.2.2.2.length then (match A.2.2.2.2.2.drop (xm y).2.2.2.2.2.1 with
    | a :: r => match er_rl A a with
      | [] => none
      | rs => if er_cls (xm y).2.2.2.2.2.2.1 rs then some (a :: (A.2.2.2.2.2.take (xm y).2.2.2.2.2.1).reverse, r) else none
    | [] => none) else none
  | _ => none
theorem ah_cal_ok {c : eX} {ρ : List Int} {A : eS} {h : pH} {st : List pv} (hb : b_R c ρ A h) (hs : s_R ρ A.2.2.2.2.2 st) {I : Jvm.ClassFile.Instr} {x y : Nat} {w : List eV × List eV} (hA : ah_cal I x y A = some w) : ∃ ar, px_cal eL I x y st = some ar ∧ s_R ρ w.1 ar.1 ∧ s_R ρ w.2 ar.2 := by
  unfold ah_cal at hA
  split at hA
  · split at hA
    · next hc =>
      rw [Bool.and_eq_true, Bool.and_eq_true, Bool.or_eq_true] at hc
      obtain ⟨⟨h1, h2⟩, h3⟩ := hc
      cases hA
      have h2 := Nat.eq_of_beq_eq_true h2
      have h3 := Nat.le_of_ble_eq_true h3
      rw [s_R_len hs] at h3
      refine ⟨((st.take (xm y).2.2.2.2.2.1).reverse, st.drop (xm y).2.2.2.2.2.1), ?_, s_R_rev (s_R_take hs), s_R_drop hs⟩
      unfold px_cal
      dsimp only
      rw [if_pos ⟨h1.imp Nat.eq_of_beq_eq_true Nat.eq_of_beq_eq_true, h2, h3⟩]
    · cases hA
  · split at hA
    · next hc =>
      rw [Bool.and_eq_true, Bool.and_eq_true] at hc
      obtain ⟨⟨h1, h2⟩, h3⟩ := hc
      have h1 := Nat.eq_of_beq_eq_true h1
      have h2 := Nat.eq_of_beq_eq_true h2
      have h3 := Nat.le_of_ble_eq_true h3
      rw [s_R_len hs] at h3
      split at hA
      · next a r hdr =>
        split at hA
        · cases hA
        · next hne =>
          split at hA
          · next hcl =>
            cases hA
            have hs2 := s_R_drop (n := (xm y).2.2.2.2.2.1) hs
            rw [hdr] at hs2
            obtain ⟨v, r', e1, g1, g2⟩ := s_R_cons hs2
            obtain ⟨k, rfl, hk⟩ := er_rl_ok hb g1 hne
            refine ⟨(.inr (.inr (some k)) :: (st.take (xm y).2.2.2.2.2.1).reverse, r'), ?_, ⟨g1, s_R_rev (s_R_take hs)⟩, g2⟩
            unfold px_cal
            dsimp only
            rw [if_pos ⟨h1, h2, h3⟩, e1]
            dsimp only
            rw [if_pos (er_cls_ok hcl hk)]
          · cases hA
      · cases hA
    · cases hA
  · cases hA
/-! ends of methods -/
def ah_5f (t : Option FieldType) (I : Jvm.ClassFile.Instr) (A : eS) : Option (Option eV) := match I, A.2.2.2.2.2 with
  | .ireturn, [a] => if Nat.beq a.1 0 then (match t with
    | some .int => some (some a)
    | some .boolean => if ea_bt A.2.1 A.2.2.1 a.2 0 1 then some (some a) else none
    | _ => none) else none
  | .lreturn, [a] => if Nat.beq a.1 1 && xe_rl t then some (some a) else none
  | .areturn, [a] => if Nat.beq a.1 2 && xe_rr t then some (some a) else none
  | .return_, [] => if t.isNone then some none else none
  | _, _ => none
def o_R (ρ : List Int) (v : Option eV) (rv : Option pv) : Prop := match v with
  | none => rv = none
  | some a => ∃ w, rv = some w ∧ v_R ρ a w
theorem ah_5_ok {c : eX} {ρ : List Int} {A : eS} {h : pH} {st : List pv} (hb : b_R c ρ A h) (hs : s_R ρ A.2.2.2.2.2 st) {t : Option FieldType} {I : Jvm.ClassFile.Instr} {v : Option eV} (hA : ah_5f t I A = some v) : ∃ r, px_ret t I st = some r ∧ o_R ρ v r := by
  unfold ah_5f at hA
  split at hA
  · next a heq =>
    rw [heq] at hs
    obtain ⟨w, r, rfl, g1, g2⟩ := s_R_cons hs
    have := s_R_nil g2
    subst this
    split at hA
    · next h0 =>
      obtain ⟨x, rfl, hx⟩ := v_R_i (Nat.eq_of_beq_eq_true h0) g1
      split at hA
      · cases hA
        exact ⟨_, rfl, _, rfl, g1⟩
      · split at hA
        · next hbt =>
          cases hA
          have g := ea_bt_ok hb.2.1 hb.2.2.1 hbt hx
          have hz2 : x = 0 ∨ x = 1 := by
            rcases (by omega : x.toInt = 0 ∨ x.toInt = 1) with e | e
            · exact Or.inl (i32_eq0.mpr e)
            · exact Or.inr (Int32.toInt_inj.mp (by rw [e]; decide))
          refine ⟨some (.inl x), ?_, _, rfl, g1⟩
          show (if x = 0 ∨ x = 1 then some (some (Sum.inl x)) else none) = _
          rw [if_pos hz2]
        · cases hA
      · cases hA
    · cases hA
  · next a heq =>
    rw [heq] at hs
    obtain ⟨w, r, rfl, g1, g2⟩ := s_R_cons hs
    have := s_R_nil g2
    subst this
    split at hA
    · next h0 =>
      rw [Bool.and_eq_true] at h0
      obtain ⟨x, rfl, hx⟩ := v_R_l (Nat.eq_of_beq_eq_true h0.1) g1
      cases hA
      refine ⟨some (.inr (.inl x)), ?_, _, rfl, g1⟩
      show (if xe_rl t then some (some (Sum.inr (Sum.inl x))) else none) = _
      rw [if_pos h0.2]
    · cases hA
  · next a heq =>
    rw [heq] at hs
    obtain ⟨w, r, rfl, g1, g2⟩ := s_R_cons hs
    have := s_R_nil g2
    subst this
    split at hA
    · next h0 =>
      rw [Bool.and_eq_true] at h0
      obtain ⟨x, rfl, hx⟩ := v_R_r (Nat.eq_of_beq_eq_true h0.1) g1
      cases hA
      refine ⟨some (.inr (.inr x)), ?_, _, rfl, g1⟩
      show (if xe_rr t then some (some (Sum.inr (Sum.inr x))) else none) = _
      rw [if_pos h0.2]
    · cases hA
  · next heq =>
    rw [heq] at hs
    have := s_R_nil hs
    subst this
    split at hA
    · next h0 =>
      cases hA
      refine ⟨none, ?_, rfl⟩
      show (if t.isNone then some none else none) = _
      rw [if_pos h0]
    · cases hA
  · cases hA
/-! indexOf -/
theorem xs_ixF_b (c : Int32) : ∀ (l : List Nat) (k : Nat), k + l.length ≤ 1000 → -1 ≤ (xs_ixF c l k).toInt ∧ (xs_ixF c l k).toInt < (k : Int) + l.length
  | [], k, hk => by
    show -1 ≤ (-1 : Int32).toInt ∧ (-1 : Int32).toInt < (k : Int) + (0 : Nat)
    have : (-1 : Int32).toInt = -1 := by decide
    omega
  | b :: l, k, hk => by
    have hk2 : k + l.length + 1 ≤ 1000 := by rw [List.length_cons] at hk; omega
    unfold xs_ixF
    split
    · rw [nI_toInt (by omega), List.length_cons]
      omega
    · have ih := xs_ixF_b c l (k + 1) (by omega)
      rw [List.length_cons]
      omega
theorem xs_by_len : ∀ i, i < 5 → (xs_by.getD i []).length ≤ 11 := by decide +kernel
theorem xs_ix_b (c : Int32) {i : Nat} (hi : i < 5) : -1 ≤ (xs_ix i c).toInt ∧ (xs_ix i c).toInt ≤ 10 := by
  have h1 := xs_by_len i hi
  have h2 := xs_ixF_b c (xs_by.getD i []) 0 (by omega)
  show -1 ≤ (xs_ixF c (xs_by.getD i []) 0).toInt ∧ (xs_ixF c (xs_by.getD i []) 0).toInt ≤ 10
  omega
def ah_6x (j : Nat) (A : eS) : Option eS := match A.2.2.2.2.2 with
  | i :: a :: r => match er_set A a with
    | [] => none
    | s => if Nat.beq i.1 0 && ea_d A j 8 && Nat.ble (es_sum r) 8 && s.all (fun z => Nat.ble 1002 z && Nat.ble z 1006) then some (es_pv A 0 (-1, 10, []) r) else none
  | _ => none
theorem ah_6x_ok {c : eX} {ρ : List Int} {A A' : eS} {lv : List (Nat × pv)} {h : pH} {st : List pv} {j d : Nat} (hr : r_R c ρ A lv st h) (hd : d + j = c.2.2.2.2) (hA : ah_6x j A = some A') : ∃ st2 ρ', px_ixo d 6 st = some st2 ∧ ρ <+: ρ' ∧ r_R c ρ' A' lv st2 h := by
  obtain ⟨hb, hl, hs⟩ := hr
  unfold ah_6x at hA
  split at hA
  · next i a S heq =>
    split at hA
    · cases hA
    · next hne =>
      split at hA
      · next hc =>
        rw [Bool.and_eq_true, Bool.and_eq_true, Bool.and_eq_true] at hc
        obtain ⟨⟨⟨h1, h2⟩, h3⟩, h4⟩ := hc
        rw [heq] at hs
        obtain ⟨v1, r1, rfl, g1, g2⟩ := s_R_cons hs
        obtain ⟨v2, r, rfl, g3, g4⟩ := s_R_cons g2
        obtain ⟨x, rfl, hx⟩ := v_R_i (Nat.eq_of_beq_eq_true h1) g1
        obtain ⟨o, rfl, ho, -, -⟩ := er_set_ok hb g3 hne
        have h5 := List.all_eq_true.mp h4 _ ho
        rw [Bool.and_eq_true] at h5
        have h6 := Nat.le_of_ble_eq_true h5.1
        have h7 := Nat.le_of_ble_eq_true h5.2
        match o, h6, h7 with
        | none, h6, h7 => exact absurd h6 (by show ¬ 1002 ≤ (0 : Int).toNat; decide)
        | some k, h6, h7 =>
          have h6 : 1002 ≤ ((k : Int) + 1).toNat := h6
          have h7 : ((k : Int) + 1).toNat ≤ 1006 := h7
          have d8 : px_sum r ≤ 8 := by rw [es_sum_ok g4]; exact Nat.le_of_ble_eq_true h3
          have gb := xs_ix_b x (i := k - 1001) (by omega)
          cases hA
          obtain ⟨ρ', p1, p2⟩ := es_pv_ok hb hl g4 (v := .inl (xs_ix (k - 1001) x)) (e := (-1, 10, [])) rfl ⟨gb.1, gb.2, Or.inl rfl⟩
          refine ⟨_, ρ', ?_, p1, p2⟩
          unfold px_ixo
          dsimp only
          rw [if_pos ⟨ea_d_ok hb hd h2, d8, by omega, by omega⟩]
          rfl
      · cases hA
  · cases hA
def ah_6f (j x : Nat) (A : eS) : Option eS := match x with
  | 6 => ah_6x j A
  | 7 => if ea_d A j 1 && Nat.ble (es_sum A.2.2.2.2.2) 8 then ea_1 0 A.2.2.2.2.2 (fun _ S => some (es_pv A 0 (0, 63, []) S)) else none
  | 8 => if ea_d A j 1 && Nat.ble (es_sum A.2.2.2.2.2) 8 then ah_ab A 0 else none
  | _ => none
theorem ah_6_ok {c : eX} {ρ : List Int} {A A' : eS} {lv : List (Nat × pv)} {h : pH} {st : List pv} {j d x : Nat} (hr : r_R c ρ A lv st h) (hd : d + j = c.2.2.2.2) (hA : ah_6f j x A = some A') : ∃ st2 ρ', px_ixo d x st = some st2 ∧ ρ <+: ρ' ∧ r_R c ρ' A' lv st2 h := by
  unfold ah_6f at hA
  split at hA
  · exact ah_6x_ok hr hd hA
  · split at hA
    · next hc =>
      rw [Bool.and_eq_true] at hc
      have h1 := ea_d_ok hr.1 hd hc.1
      have h8 : px_sum st ≤ 8 := by rw [es_sum_ok hr.2.2]; exact Nat.le_of_ble_eq_true hc.2
      show ∃ st2 ρ', (if 1 ≤ d ∧ px_sum st ≤ 8 then px_u1 xs_bc st else none) = some st2 ∧ _
      rw [if_pos ⟨h1, h8⟩]
      obtain ⟨x1, X, S, r, rfl, hx, hs', hk⟩ := ea_1_i hr.2.2 hA
      cases hk
      have g := xs_bc_v x1
      obtain ⟨ρ', p1, p2⟩ := es_pv_ok hr.1 hr.2.1 hs' (v := .inl (xs_bc x1)) (e := (0, 63, [])) rfl ⟨g.1, g.2, Or.inl rfl⟩
      exact ⟨_, ρ', rfl, p1, p2⟩
    · cases hA
  · split at hA
    · next hc =>
      rw [Bool.and_eq_true] at hc
      have h1 := ea_d_ok hr.1 hd hc.1
      have h8 : px_sum st ≤ 8 := by rw [es_sum_ok hr.2.2]; exact Nat.le_of_ble_eq_true hc.2
      show ∃ st2 ρ', (if 1 ≤ d ∧ px_sum st ≤ 8 then px_u1 xs_ab st else none) = some st2 ∧ _
      rw [if_pos ⟨h1, h8⟩]
      exact ah_ab_i hr hA
    · cases hA
  · cases hA
