/-! the reckoner with bounds: stores into the world -/
/-- the heap is another one at one field of one role at most -/
def w_f (h h' : pH) (k y : Nat) : Prop := (∀ k' y' : Nat, ¬ (k' = k ∧ y' = y) → h'.1 k' y' = h.1 k' y' ∧ h'.2.1 k' y' = h.2.1 k' y' ∧ h'.2.2.1 k' y' = h.2.2.1 k' y') ∧ h'.2.2.2 = h.2.2.2
/-- at one row at most -/
def w_a (h h' : pH) (k : Nat) : Prop := (h'.1 = h.1 ∧ h'.2.1 = h.2.1 ∧ h'.2.2.1 = h.2.2.1) ∧ (∀ k' : Nat, k' ≠ k → h'.2.2.2.1 k' = h.2.2.2.1 k' ∧ h'.2.2.2.2.1 k' = h.2.2.2.2.1 k' ∧ h'.2.2.2.2.2 k' = h.2.2.2.2.2 k')
theorem w_f_M {h0 h h' : pH} {k y W : Nat} (hw : w_f h h' k y) (hf : f_M W h0 h) (hk : W.testBit (cn k + y) = true) : f_M W h0 h' := by
  refine ⟨fun k' y' hb => ?_, fun k' hb => ?_⟩
  · have e := hw.1 k' y' (by
      rintro ⟨rfl, rfl⟩
      rw [hk] at hb
      cases hb)
    have f := hf.1 k' y' hb
    exact ⟨e.1.trans f.1, e.2.1.trans f.2.1, e.2.2.trans f.2.2⟩
  · rw [hw.2]
    exact hf.2 k' hb
theorem w_a_M {h0 h h' : pH} {k W : Nat} (hw : w_a h h' k) (hf : f_M W h0 h) (hk : W.testBit (cn k) = true) : f_M W h0 h' := by
  refine ⟨fun k' y' hb => ?_, fun k' hb => ?_⟩
  · rw [hw.1.1, hw.1.2.1, hw.1.2.2]
    exact hf.1 k' y' hb
  · have f := hf.2 k' hb
    have n : k' ≠ k := fun e => by rw [e, hk] at hb; cases hb
    have e := hw.2 k' n
    exact ⟨e.1.trans f.1, e.2.1.trans f.2.1, e.2.2.trans f.2.2⟩
theorem w_f_pF {h h' : pH} {k y : Nat} (hw : w_f h h' k y) {x k' y' : Nat} (hn : ¬ (k' = k ∧ y' = y)) : pF h' x k' y' = pF h x k' y' := by
  have e := hw.1 k' y' hn
  unfold pF
  split <;> simp [e.1, e.2.1, e.2.2]
theorem w_f_c {h h' : pH} {k y : Nat} (hw : w_f h h' k y) {k' y' : Nat} {j : Int} (hn : ¬ (k' = k ∧ y' = y)) : h_c h' k' y' j = h_c h k' y' j := by
  unfold h_c
  cases eL[k']? with
  | none => rfl
  | some t =>
    dsimp only
    rw [hw.2, w_f_pF hw hn]
theorem w_a_c {h h' : pH} {k : Nat} (hw : w_a h h' k) {k' y' : Nat} {j : Int} (hn : k' ≠ k) : h_c h' k' y' j = h_c h k' y' j := by
  unfold h_c
  cases eL[k']? with
  | none => rfl
  | some t =>
    have e := hw.2 k' hn
    have ep : pF h' t.2 k' y' = pF h t.2 k' y' := by unfold pF; rw [hw.1.1, hw.1.2.1, hw.1.2.2]
    dsimp only
    rw [e.1, e.2.1, e.2.2, ep]
theorem g_I_a {G : Nat → eE} {h h' : pH} {k : Nat} (hg : g_I G h) (hw : w_a h h' k) (h1 : ∀ t, eL[k]? = some t → (t.1 = 1 ∨ t.1 = 2 → ∀ j, j < t.2 → ok_v (h'.2.2.2.1 k j).toInt (G (cn k))) ∧ (t.1 = 3 → ∀ j, j < t.2 → ok_v (h'.2.2.2.2.1 k j).toInt (G (cn k))) ∧ (t.1 = 4 → ∀ j, j < t.2 → ok_v (cv (.inr (.inr (h'.2.2.2.2.2 k j)))) (G (cn k)))) : g_I G h' := by
  intro k' t ht
  have g := hg k' t ht
  by_cases e : k' = k
  · subst e
    refine ⟨fun h0 y' hy' => ?_, h1 t ht⟩
    have ep : pF h' t.2 k' y' = pF h t.2 k' y' := by unfold pF; rw [hw.1.1, hw.1.2.1, hw.1.2.2]
    rw [ep]
    exact g.1 h0 y' hy'
  · have e := hw.2 k' e
    refine ⟨fun h0 y' hy' => ?_, by rw [e.1]; exact g.2.1, by rw [e.2.1]; exact g.2.2.1, by rw [e.2.2]; exact g.2.2.2⟩
    have ep : pF h' t.2 k' y' = pF h t.2 k' y' := by unfold pF; rw [hw.1.1, hw.1.2.1, hw.1.2.2]
    rw [ep]
    exact g.1 h0 y' hy'
theorem g_I_f {G : Nat → eE} {h h' : pH} {k x y : Nat} (hg : g_I G h) (hw : w_f h h' k y) (hk : eL[k]? = some (0, x)) (hv : ok_v (cv (pF h' x k y)) (G (cn k + y))) : g_I G h' := by
  intro k' t ht
  have g := hg k' t ht
  refine ⟨fun h0 y' hy' => ?_, by rw [hw.2]; exact g.2.1, by rw [hw.2]; exact g.2.2.1, by rw [hw.2]; exact g.2.2.2⟩
  by_cases e : k' = k ∧ y' = y
  · obtain ⟨rfl, rfl⟩ := e
    rw [hk] at ht
    cases ht
    exact hv
  · rw [w_f_pF hw e]
    exact g.1 h0 y' hy'
theorem ok_v_R {c : eX} {ρ : List Int} {A : eS} {h : pH} (hb : b_R c ρ A h) {a : eV} {v : pv} (hv : v_R ρ a v) {n : Nat} {e : eE} (hh : (Nat.beq a.1 n && !(Nat.beq n 3) && ea_bt A.2.1 A.2.2.1 a.2 e.1 e.2.1 && (match e.2.2 with
    | [] => true
    | s => match er_set A a with
      | [] => false
      | l => l.all (fun z => s.any (fun w => Nat.beq z w)))) = true) : ct v = n ∧ ok_v (cv v) e := by
  rw [Bool.and_eq_true, Bool.and_eq_true, Bool.and_eq_true, Bool.not_eq_true'] at hh
  obtain ⟨⟨⟨h1, h2⟩, h3⟩, h4⟩ := hh
  have h1 := Nat.eq_of_beq_eq_true h1
  have n3 : a.1 ≠ 3 := fun e => by rw [← h1, e] at h2; cases h2
  obtain ⟨g1, g2⟩ := v_R_of n3 hv
  have g3 := ea_bt_ok hb.2.1 hb.2.2.1 h3 g2
  refine ⟨g1.trans h1, g3.1, g3.2, ?_⟩
  split at h4
  · next e0 => exact Or.inl e0
  · split at h4
    · cases h4
    · next hne =>
      obtain ⟨x, -, q1, -, -⟩ := er_set_ok hb hv hne
      have q2 := List.all_eq_true.mp h4 _ q1
      obtain ⟨w, q3, q4⟩ := List.any_eq_true.mp q2
      rw [← Nat.eq_of_beq_eq_true q4] at q3
      exact Or.inr q3
/-- a value is within -/
def ea_in (A : eS) (a : eV) (n : Nat) (e : eE) : Bool := Nat.beq a.1 n && !(Nat.beq n 3) && ea_bt A.2.1 A.2.2.1 a.2 e.1 e.2.1 && (match e.2.2 with
    | [] => true
    | s => match er_set A a with
      | [] => false
      | l => l.all (fun z => s.any (fun w => Nat.beq z w)))
theorem ea_in_ok {c : eX} {ρ : List Int} {A : eS} {h : pH} (hb : b_R c ρ A h) {a : eV} {v : pv} (hv : v_R ρ a v) {n : Nat} {e : eE} (hh : ea_in A a n e = true) : ct v = n ∧ ok_v (cv v) e := ok_v_R hb hv hh
/-- what else holds of the heap is kept where none of its cells is written -/
def x_K (X : pH → Prop) (DX : Nat) : Prop := ∀ (V : Nat) (h h' : pH), f_M V h h' → V &&& DX = 0 → X h → X h'
theorem one_and {c DX : Nat} (h : DX.testBit c = false) : (1 <<< c) &&& DX = 0 := by
  apply Nat.eq_of_testBit_eq
  intro i
  rw [Nat.testBit_and, Nat.zero_testBit, Nat.testBit_shiftLeft]
  by_cases e : i = c
  · rw [e, h, Bool.and_false]
  · by_cases g : i ≥ c
    · have e1 : Nat.testBit 1 (i - c) = false := by
        rw [Bool.eq_false_iff]
        intro z
        have := Nat.testBit_one_eq_true_iff_self_eq_zero.mp z
        omega
      rw [e1]
      simp
    · simp [g]
theorem one_bit (c : Nat) : (1 <<< c).testBit c = true := by
  rw [Nat.testBit_shiftLeft]
  simp
def ef_dropf (rs : List Nat) (y : Nat) (F : List eF) : List eF := F.filter (fun f => !(Nat.beq f.2.1 y && rs.any (fun k => Nat.beq f.1 k)))
def ef_dropa (rs : List Nat) (F : List eF) : List eF := F.filter (fun f => !(rs.any (fun k => Nat.beq f.1 k)))
def e_bool (x y : Nat) : Bool := match xk_ty x y with
  | .boolean => true
  | _ => false
def e_w1 (G : Nat → eE) (W DX : Nat) (A : eS) (v : eV) (n y k : Nat) : Bool := ea_in A v n (G (cn k + y)) && W.testBit (cn k + y) && !(DX.testBit (cn k + y))
def e_okt (x y : Nat) : Bool := match xk_ty x y with
  | .int | .boolean | .long | .object _ | .array _ => true
  | _ => false
def e_wb (A : eS) (v : eV) (x y : Nat) : Bool := match e_bool x y with
  | true => ea_bt A.2.1 A.2.2.1 v.2 0 1
  | false => true
def ah_put (G : Nat → eE) (W DX : Nat) (A : eS) (x y : Nat) : Option eS := match A.2.2.2.2.2 with
  | v :: a :: S => match er_rl A a with
    | [] => none
    | rs => if Nat.ble (y + 1) (pnf x) && e_okt x y && er_cls x rs && rs.all (e_w1 G W DX A v (e_tag x y) y) && e_wb A v x y then xe_fl (ef_dropf rs y A.2.2.2.1) (fun F => match rs with
        | [k] => some (es_S (es_F A ((k, y, (0, []), v) :: F)) S)
        | _ => some (es_S (es_F A F) S)) else none
  | _ => none
theorem px_put_ok {h : pH} {x y k : Nat} {v : pv} {r : List pv} (hk : eL[k]? = some (0, x)) (ht : e_okt x y = true) (hn : ct v = e_tag x y) (hbool : e_bool x y = true → 0 ≤ cv v ∧ cv v ≤ 1) : ∃ h', px_put eL h x y (v :: .inr (.inr (some k)) :: r) = some (r, h') ∧ w_f h h' k y ∧ pF h' x k y = v := by
  have e1 : ∀ {α : Type} (f : Nat → Nat → α) (z : α), pu f k y z k y = z := fun f z => if_pos ⟨rfl, rfl⟩
  have e2 : ∀ {α : Type} (f : Nat → Nat → α) (z : α) (k' y' : Nat), ¬ (k' = k ∧ y' = y) → pu f k y z k' y' = f k' y' := fun f z k' y' hn => if_neg hn
  unfold px_put
  dsimp only
  rw [if_pos hk]
  unfold e_okt at ht
  unfold e_tag at hn
  unfold e_bool at hbool
  unfold pF
  generalize xk_ty x y = t at ht hn hbool ⊢
  split at ht
  · match v, hn with
    | .inl z, _ => exact ⟨_, rfl, ⟨fun k' y' hn => ⟨e2 _ _ _ _ hn, rfl, rfl⟩, rfl⟩, congrArg Sum.inl (e1 _ _)⟩
  · match v, hn with
    | .inl z, _ =>
      have hz := hbool rfl
      have hz : 0 ≤ z.toInt ∧ z.toInt ≤ 1 := hz
      have hz2 : z = 0 ∨ z = 1 := by
        rcases (by omega : z.toInt = 0 ∨ z.toInt = 1) with e | e
        · exact Or.inl (i32_eq0.mpr e)
        · exact Or.inr (Int32.toInt_inj.mp (by rw [e]; decide))
      dsimp only
      rw [if_pos hz2]
      exact ⟨_, rfl, ⟨fun k' y' hn => ⟨e2 _ _ _ _ hn, rfl, rfl⟩, rfl⟩, congrArg Sum.inl (e1 _ _)⟩
  · match v, hn with
    | .inr (.inl z), _ => exact ⟨_, rfl, ⟨fun k' y' hn => ⟨rfl, e2 _ _ _ _ hn, rfl⟩, rfl⟩, congrArg (fun z => Sum.inr (Sum.inl z)) (e1 _ _)⟩
  · match v, hn with
    | .inr (.inr z), _ => exact ⟨_, rfl, ⟨fun k' y' hn => ⟨rfl, rfl, e2 _ _ _ _ hn⟩, rfl⟩, congrArg (fun z => Sum.inr (Sum.inr z)) (e1 _ _)⟩
  · match v, hn with
    | .inr (.inr z), _ => exact ⟨_, rfl, ⟨fun k' y' hn => ⟨rfl, rfl, e2 _ _ _ _ hn⟩, rfl⟩, congrArg (fun z => Sum.inr (Sum.inr z)) (e1 _ _)⟩
  · cases ht
theorem ah_put_ok {c : eX} {DX : Nat} {ρ : List Int} {A A' : eS} {lv : List (Nat × pv)} {st : List pv} {h : pH} (hX : x_K c.2.1 DX) (hr : r_R c ρ A lv st h) {x y : Nat} (hA : ah_put c.1 c.2.2.2.1 DX A x y = some A') : ∃ w, px_put eL h x y st = some w ∧ r_R c ρ A' lv w.1 w.2 := by
  obtain ⟨hb, hl, hs⟩ := hr
  unfold ah_put at hA
  split at hA
  · next v a S heq =>
    split at hA
    · cases hA
    · next hne =>
      split at hA
      · next hh =>
        rw [Bool.and_eq_true, Bool.and_eq_true, Bool.and_eq_true, Bool.and_eq_true] at hh
        obtain ⟨⟨⟨⟨h1, h2⟩, h3⟩, h4⟩, h5⟩ := hh
        have h1 : y < pnf x := Nat.le_of_ble_eq_true h1
        rw [heq] at hs
        obtain ⟨v1, r1, rfl, g1, g2⟩ := s_R_cons hs
        obtain ⟨v2, r, rfl, g3, g4⟩ := s_R_cons g2
        obtain ⟨k, rfl, hk⟩ := er_rl_ok hb g3 hne
        have hcl := er_cls_ok h3 hk
        have hw := List.all_eq_true.mp h4 k hk
        unfold e_w1 at hw
        rw [Bool.and_eq_true, Bool.and_eq_true, Bool.not_eq_true'] at hw
        obtain ⟨⟨w1, w2⟩, w3⟩ := hw
        obtain ⟨q1, q2⟩ := ea_in_ok hb g1 w1
        obtain ⟨h', p1, p2, p3⟩ := px_put_ok (h := h) (r := r) hcl h2 q1 (fun hbool => by
          unfold e_wb at h5
          rw [hbool] at h5
          have n3 : v.1 ≠ 3 := by
            unfold ea_in at w1
            rw [Bool.and_eq_true, Bool.and_eq_true, Bool.and_eq_true, Bool.not_eq_true'] at w1
            intro e
            have := Nat.eq_of_beq_eq_true w1.1.1.1
            rw [← this, e] at w1
            have := w1.1.1.2
            cases this
          exact ea_bt_ok hb.2.1 hb.2.2.1 h5 (v_R_of n3 g1).2)
        refine ⟨(r, h'), p1, ?_⟩
        have hF : f_F ρ (ef_dropf (er_rl A a) y A.2.2.2.1) h' := by
          intro f hf
          obtain ⟨hm, hd⟩ := List.mem_filter.mp hf
          obtain ⟨j, z, e1, e2, e3⟩ := hb.2.2.2.1 f hm
          refine ⟨j, z, e1, ?_, e3⟩
          rw [w_f_c p2]
          · exact e2
          · rintro ⟨n1, n2⟩
            rw [Bool.not_eq_true', Bool.and_eq_false_iff] at hd
            rcases hd with hd | hd
            · rw [n2, Nat.beq_refl] at hd
              cases hd
            · have : (er_rl A a).any (fun k => Nat.beq f.1 k) = true := List.any_eq_true.mpr ⟨k, hk, by rw [n1]; exact Nat.beq_refl k⟩
              rw [this] at hd
              cases hd
        have hbase : ∀ F, f_F ρ F h' → b_R c ρ (es_F A F) h' := fun F hF => ⟨hb.1, hb.2.1, hb.2.2.1, hF, g_I_f hb.2.2.2.2.1 p2 hcl (by rw [p3]; exact q2), hX _ h h' (w_f_M p2 (f_M_rf _ h) (one_bit (cn k + y))) (one_and w3) hb.2.2.2.2.2.1, w_f_M p2 hb.2.2.2.2.2.2.1 w2, hb.2.2.2.2.2.2.2⟩
        rw [xe_fl_eq] at hA
        split at hA
        · next k0 hrs =>
          cases hA
          have e0 : k = k0 := by rw [hrs] at hk; exact List.mem_singleton.mp hk
          refine ⟨hbase _ (fun f hf => ?_), hl, g4⟩
          rcases List.mem_cons.mp hf with rfl | hf
          · refine ⟨0, v1, ev_c 0, ?_, g1⟩
            unfold h_c
            rw [← e0, hcl]
            dsimp only
            rw [if_pos h1, p3]
            rfl
          · exact hF f hf
        · cases hA
          exact ⟨hbase _ hF, hl, g4⟩
      · cases hA
  · cases hA
