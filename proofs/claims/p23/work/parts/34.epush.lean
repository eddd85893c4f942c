/-! the reckoner with bounds: what only changes the stack -/
def ea_lo0 (w : Nat) : Int := match w with
  | 0 => -2147483648
  | _ => -9223372036854775808
def ea_hi0 (w : Nat) : Int := match w with
  | 0 => 2147483647
  | _ => 9223372036854775807
/-- a number onto the stack S -/
def es_pv (A : eS) (n : Nat) (e : eE) (S : List eV) : eS := es_S (ea_val A n e).2 ((ea_val A n e).1 :: S)
theorem es_pv_ok {c : eX} {ρ : List Int} {A : eS} {lv : List (Nat × pv)} {h : pH} {S : List eV} {r : List pv} (hb : b_R c ρ A h) (hl : l_R ρ A.2.2.2.2.1 lv) (hs : s_R ρ S r) {n : Nat} {e : eE} {v : pv} (hn : ct v = n) (hx : ok_v (cv v) e) : ∃ ρ', ρ <+: ρ' ∧ r_R c ρ' (es_pv A n e S) lv (v :: r) h := by
  obtain ⟨ρ', h1, h2, h3, h4, h5⟩ := ea_val_ok hb n hx
  refine ⟨ρ', h1, h2, ?_, ?_, s_R_mono h1 hs⟩
  · show l_R ρ' (ea_val A n e).2.2.2.2.2.1 lv
    rw [h5]
    exact l_R_mono h1 hl
  · have e1 : (ea_val A n e).1 = (n, (ea_val A n e).1.2) := Prod.ext h3 rfl
    rw [e1]
    exact v_R_mk hn h4
theorem ok_full {w : Nat} {v : pv} (hw : ct v = w) (h2 : w ≠ 2) : ok_v (cv v) (ea_lo0 w, ea_hi0 w, []) := by
  match v, hw with
  | .inl x, hw =>
    subst hw
    have := Int32.toInt_lt x
    exact ⟨Int32.le_toInt x, by show x.toInt ≤ (2147483647 : Int); omega, Or.inl rfl⟩
  | .inr (.inl x), hw =>
    subst hw
    have := Int64.toInt_lt x
    exact ⟨Int64.le_toInt x, by show x.toInt ≤ (9223372036854775807 : Int); omega, Or.inl rfl⟩
  | .inr (.inr x), hw => exact absurd hw.symm h2
def es_full (A : eS) (w : Nat) (S : List eV) : eS := es_pv A w (ea_lo0 w, ea_hi0 w, []) S
/-- a term onto the stack, if it is within the range; else any number -/
def es_lin (A : eS) (w : Nat) (t : eT) (S : List eV) : eS := ea_ft t (fun t => match ea_bt A.2.1 A.2.2.1 t (ea_lo0 w) (ea_hi0 w) with
  | true => es_S A ((w, t) :: S)
  | false => es_full A w S)
theorem es_lin_ok {c : eX} {ρ : List Int} {A : eS} {lv : List (Nat × pv)} {h : pH} {S : List eV} {r : List pv} (hb : b_R c ρ A h) (hl : l_R ρ A.2.2.2.2.1 lv) (hs : s_R ρ S r) {w : Nat} (h2 : w ≠ 2) {t : eT} {x : Int} {v : pv} (hn : ct v = w) (ht : ev_t ρ t x) (hx : ea_lo0 w ≤ x → x ≤ ea_hi0 w → cv v = x) : ∃ ρ', ρ <+: ρ' ∧ r_R c ρ' (es_lin A w t S) lv (v :: r) h := by
  unfold es_lin
  rw [ea_ft_eq]
  split
  · next hh =>
    have g := ea_bt_ok hb.2.1 hb.2.2.1 hh ht
    refine ⟨ρ, List.prefix_rfl, hb, hl, v_R_mk hn (by rw [hx g.1 g.2]; exact ht), hs⟩
  · exact es_pv_ok hb hl hs hn (ok_full hn h2)
/-- bounds of a term -/
def ea_b2 {α : Type} (env : List (Nat × eE)) (t : eT) (k : Int → Int → Option α) : Option α := match ea_lb env t with
  | some a => match ea_ub env t with
    | some b => k a b
    | none => none
  | none => none
theorem ea_b2_ok {α : Type} {ρ : List Int} {env : List (Nat × eE)} (he : ok_e ρ env) {t : eT} {v : Int} (hv : ev_t ρ t v) {k : Int → Int → Option α} {o : α} (h : ea_b2 env t k = some o) : ∃ a b, a ≤ v ∧ v ≤ b ∧ k a b = some o := by
  unfold ea_b2 at h
  split at h
  · next a ha =>
    split at h
    · next b hb => exact ⟨a, b, ea_lb_ok he ha hv, ea_ub_ok he hb hv, h⟩
    · cases h
  · cases h
def ea_n0 (op : Nat) (b0 b1 : Int) : Bool := match op with
  | 1 => ea_le 1 b0 || ea_le b1 (-1)
  | 2 => ea_le 1 b0 || ea_le b1 (-1)
  | _ => true
def eo_w (w op : Nat) (a0 a1 b0 b1 : Int) : Int × Int := match w with
  | 0 => eo_i op a0 a1 b0 b1
  | _ => eo_l op a0 a1 b0 b1
def es_op (A : eS) (w op : Nat) (X Y : eT) (S : List eV) : Option eS := ea_b2 A.2.1 X (fun a0 a1 => ea_b2 A.2.1 Y (fun b0 b1 => if ea_n0 op b0 b1 then
    (ea_f (eo_w w op a0 a1 b0 b1).1 (fun lo => ea_f (eo_w w op a0 a1 b0 b1).2 (fun hi => if ea_le (ea_lo0 w) lo && ea_le hi (ea_hi0 w) then some (es_pv A w (lo, hi, []) S) else some (es_full A w S)))) else none))
theorem ea_n0_ok {op : Nat} {b0 b1 y : Int} (h : ea_n0 op b0 b1 = true) (h1 : b0 ≤ y) (h2 : y ≤ b1) : op = 1 ∨ op = 2 → y ≠ 0 := by
  rintro (rfl | rfl) <;> (
    have h : (ea_le 1 b0 || ea_le b1 (-1)) = true := h
    rw [Bool.or_eq_true, ea_le_iff, ea_le_iff] at h
    omega)
theorem es_op_i {c : eX} {ρ : List Int} {A A' : eS} {lv : List (Nat × pv)} {h : pH} {S : List eV} {r : List pv} (hb : b_R c ρ A h) (hl : l_R ρ A.2.2.2.2.1 lv) (hs : s_R ρ S r) {op : Nat} {X Y : eT} {x y : Int32} (hx : ev_t ρ X x.toInt) (hy : ev_t ρ Y y.toInt) (hA : es_op A 0 op X Y S = some A') : (op = 1 ∨ op = 2 → y ≠ 0) ∧ ∃ ρ', ρ <+: ρ' ∧ r_R c ρ' A' lv (.inl (eo_fi op x y) :: r) h := by
  unfold es_op at hA
  obtain ⟨a0, a1, h1, h2, hA⟩ := ea_b2_ok hb.2.1 hx hA
  obtain ⟨b0, b1, h3, h4, hA⟩ := ea_b2_ok hb.2.1 hy hA
  split at hA
  · next hn =>
    have hn := ea_n0_ok hn h3 h4
    rw [ea_f_eq, ea_f_eq, show eo_w 0 op a0 a1 b0 b1 = eo_i op a0 a1 b0 b1 from rfl] at hA
    refine ⟨fun ho e => hn ho (by rw [e]; rfl), ?_⟩
    split at hA
    · next hr =>
      rw [Bool.and_eq_true, ea_le_iff, ea_le_iff] at hr
      cases hA
      have g := eo_i_ok h1 h2 h3 h4 hn hr.1 hr.2
      exact es_pv_ok hb hl hs (v := .inl (eo_fi op x y)) rfl ⟨g.1, g.2, Or.inl rfl⟩
    · cases hA
      exact es_pv_ok hb hl hs (v := .inl (eo_fi op x y)) rfl (ok_full rfl (by decide))
  · cases hA
theorem es_op_l {c : eX} {ρ : List Int} {A A' : eS} {lv : List (Nat × pv)} {h : pH} {S : List eV} {r : List pv} (hb : b_R c ρ A h) (hl : l_R ρ A.2.2.2.2.1 lv) (hs : s_R ρ S r) {op : Nat} (ho : op < 3) {X Y : eT} {x y : Int64} (hx : ev_t ρ X x.toInt) (hy : ev_t ρ Y y.toInt) (hA : es_op A 1 op X Y S = some A') : (op = 1 ∨ op = 2 → y ≠ 0) ∧ ∃ ρ', ρ <+: ρ' ∧ r_R c ρ' A' lv (.inr (.inl (eo_fl op x y)) :: r) h := by
  unfold es_op at hA
  obtain ⟨a0, a1, h1, h2, hA⟩ := ea_b2_ok hb.2.1 hx hA
  obtain ⟨b0, b1, h3, h4, hA⟩ := ea_b2_ok hb.2.1 hy hA
  split at hA
  · next hn =>
    have hn := ea_n0_ok hn h3 h4
    rw [ea_f_eq, ea_f_eq, show eo_w 1 op a0 a1 b0 b1 = eo_l op a0 a1 b0 b1 from rfl] at hA
    refine ⟨fun ho e => hn ho (by rw [e]; rfl), ?_⟩
    split at hA
    · next hr =>
      rw [Bool.and_eq_true, ea_le_iff, ea_le_iff] at hr
      cases hA
      have g := eo_l_ok h1 h2 h3 h4 (fun z => hn (by omega)) hr.1 hr.2
      exact es_pv_ok hb hl hs (v := .inr (.inl (eo_fl op x y))) rfl ⟨g.1, g.2, Or.inl rfl⟩
    · cases hA
      exact es_pv_ok hb hl hs (v := .inr (.inl (eo_fl op x y))) rfl (ok_full rfl (by decide))
  · cases hA
def es_mul (A : eS) (w : Nat) (X Y : eT) (S : List eV) : Option eS := match X.2 with
  | [] => some (es_lin A w (ea_sc X.1 Y) S)
  | _ => match Y.2 with
    | [] => some (es_lin A w (ea_sc Y.1 X) S)
    | _ => es_op A w 0 X Y S
/-- two numbers of kind w off the stack -/
def ea_2 (w : Nat) (S : List eV) (k : eT → eT → List eV → Option eS) : Option eS := match S with
  | b :: a :: r => if Nat.beq a.1 w && Nat.beq b.1 w then k a.2 b.2 r else none
  | _ => none
def ea_1 (w : Nat) (S : List eV) (k : eT → List eV → Option eS) : Option eS := match S with
  | a :: r => if Nat.beq a.1 w then k a.2 r else none
  | _ => none
theorem ea_2_i {ρ : List Int} {S : List eV} {st : List pv} (hs : s_R ρ S st) {k : eT → eT → List eV → Option eS} {o : eS} (h : ea_2 0 S k = some o) : ∃ (x y : Int32) (X Y : eT) (S' : List eV) (r : List pv), st = .inl y :: .inl x :: r ∧ ev_t ρ X x.toInt ∧ ev_t ρ Y y.toInt ∧ s_R ρ S' r ∧ k X Y S' = some o := by
  unfold ea_2 at h
  split at h
  · next b a S' =>
    split at h
    · next hw =>
      rw [Bool.and_eq_true] at hw
      obtain ⟨v1, r1, rfl, g1, g2⟩ := s_R_cons hs
      obtain ⟨v2, r2, rfl, g3, g4⟩ := s_R_cons g2
      obtain ⟨y, rfl, hy⟩ := v_R_i (Nat.eq_of_beq_eq_true hw.2) g1
      obtain ⟨x, rfl, hx⟩ := v_R_i (Nat.eq_of_beq_eq_true hw.1) g3
      exact ⟨x, y, a.2, b.2, S', r2, rfl, hx, hy, g4, h⟩
    · cases h
  · cases h
theorem ea_2_l {ρ : List Int} {S : List eV} {st : List pv} (hs : s_R ρ S st) {k : eT → eT → List eV → Option eS} {o : eS} (h : ea_2 1 S k = some o) : ∃ (x y : Int64) (X Y : eT) (S' : List eV) (r : List pv), st = .inr (.inl y) :: .inr (.inl x) :: r ∧ ev_t ρ X x.toInt ∧ ev_t ρ Y y.toInt ∧ s_R ρ S' r ∧ k X Y S' = some o := by
  unfold ea_2 at h
  split at h
  · next b a S' =>
    split at h
    · next hw =>
      rw [Bool.and_eq_true] at hw
      obtain ⟨v1, r1, rfl, g1, g2⟩ := s_R_cons hs
      obtain ⟨v2, r2, rfl, g3, g4⟩ := s_R_cons g2
      obtain ⟨y, rfl, hy⟩ := v_R_l (Nat.eq_of_beq_eq_true hw.2) g1
      obtain ⟨x, rfl, hx⟩ := v_R_l (Nat.eq_of_beq_eq_true hw.1) g3
      exact ⟨x, y, a.2, b.2, S', r2, rfl, hx, hy, g4, h⟩
    · cases h
  · cases h
theorem ea_1_i {ρ : List Int} {S : List eV} {st : List pv} (hs : s_R ρ S st) {k : eT → List eV → Option eS} {o : eS} (h : ea_1 0 S k = some o) : ∃ (x : Int32) (X : eT) (S' : List eV) (r : List pv), st = .inl x :: r ∧ ev_t ρ X x.toInt ∧ s_R ρ S' r ∧ k X S' = some o := by
  unfold ea_1 at h
  split at h
  · next a S' =>
    split at h
    · next hw =>
      obtain ⟨v1, r1, rfl, g1, g2⟩ := s_R_cons hs
      obtain ⟨x, rfl, hx⟩ := v_R_i (Nat.eq_of_beq_eq_true hw) g1
      exact ⟨x, a.2, S', r1, rfl, hx, g2, h⟩
    · cases h
  · cases h
theorem ea_1_l {ρ : List Int} {S : List eV} {st : List pv} (hs : s_R ρ S st) {k : eT → List eV → Option eS} {o : eS} (h : ea_1 1 S k = some o) : ∃ (x : Int64) (X : eT) (S' : List eV) (r : List pv), st = .inr (.inl x) :: r ∧ ev_t ρ X x.toInt ∧ s_R ρ S' r ∧ k X S' = some o := by
  unfold ea_1 at h
  split at h
  · next a S' =>
    split at h
    · next hw =>
      obtain ⟨v1, r1, rfl, g1, g2⟩ := s_R_cons hs
      obtain ⟨x, rfl, hx⟩ := v_R_l (Nat.eq_of_beq_eq_true hw) g1
      exact ⟨x, a.2, S', r1, rfl, hx, g2, h⟩
    · cases h
  · cases h
/-! references -/
def er_set (A : eS) (a : eV) : List Nat := if Nat.beq a.1 2 then (match a.2.1 with
  | .ofNat 0 => match a.2.2 with
    | [p] => match p.2 with
      | .ofNat 1 => match ea_g A.2.1 p.1 with
        | some e => e.2.2
        | none => []
      | _ => []
    | _ => []
  | _ => []) else []
def er_sym (a : eV) : Nat := match a.2.2 with
  | [p] => p.1
  | _ => 0
theorem er_set_ok {c : eX} {ρ : List Int} {A : eS} {h : pH} (hb : b_R c ρ A h) {a : eV} {v : pv} (hv : v_R ρ a v) (hne : er_set A a ≠ []) : ∃ x : Option Nat, v = .inr (.inr x) ∧ (cv v).toNat ∈ er_set A a ∧ ρ[er_sym a]? = some (cv v) ∧ ∃ e, ea_g A.2.1 (er_sym a) = some e ∧ er_set A a = e.2.2 := by
  unfold er_set at hne ⊢
  split at hne
  · next h2 =>
    rw [if_pos h2]
    obtain ⟨x, rfl, hx⟩ := v_R_r (Nat.eq_of_beq_eq_true h2) hv
    obtain ⟨n, t0, t⟩ := a
    dsimp only at hne hx ⊢
    split at hne
    · split at hne
      · next p =>
        obtain ⟨i, k⟩ := p
        dsimp only at hne ⊢
        split at hne
        · have h5 : ρ[i]? = some (cv (.inr (.inr x))) := ev_v_iff hx
          split at hne
          · next e he =>
            obtain ⟨y, h3, h4⟩ := ea_g_ok hb.2.1 he
            rw [h3] at h5
            cases h5
            exact ⟨x, rfl, h4.2.2.resolve_left hne, h3, e, he, rfl⟩
          · exact absurd rfl hne
        · exact absurd rfl hne
      · exact absurd rfl hne
    · exact absurd rfl hne
  · exact absurd rfl hne
def er_pred : List Nat → Option (List Nat)
  | [] => some []
  | 0 :: _ => none
  | (k + 1) :: l => match er_pred l with
    | some r => some (k :: r)
    | none => none
theorem er_pred_ok : ∀ {l r : List Nat} {n : Nat}, er_pred l = some r → n ∈ l → ∃ k, n = k + 1 ∧ k ∈ r
  | [], _, _, _, hn => absurd hn List.not_mem_nil
  | 0 :: l, r, n, h, _ => by cases h
  | (k + 1) :: l, r, n, h, hn => by
    unfold er_pred at h
    split at h
    · next r' hr =>
      cases h
      rcases List.mem_cons.mp hn with rfl | hn
      · exact ⟨k, rfl, List.mem_cons_self ..⟩
      · obtain ⟨k', h1, h2⟩ := er_pred_ok hr hn
        exact ⟨k', h1, List.mem_cons_of_mem _ h2⟩
    · cases h
def er_rl (A : eS) (a : eV) : List Nat := match er_pred (er_set A a) with
  | some r => r
  | none => []
theorem er_rl_ok {c : eX} {ρ : List Int} {A : eS} {h : pH} (hb : b_R c ρ A h) {a : eV} {v : pv} (hv : v_R ρ a v) (hne : er_rl A a ≠ []) : ∃ k : Nat, v = .inr (.inr (some k)) ∧ k ∈ er_rl A a := by
  unfold er_rl at hne ⊢
  split at hne
  · next r hr =>
    have h1 : er_set A a ≠ [] := fun e => by
      rw [e] at hr
      cases hr
      exact hne rfl
    obtain ⟨x, rfl, h2, -, -⟩ := er_set_ok hb hv h1
    obtain ⟨k, h3, h4⟩ := er_pred_ok hr h2
    match x, h3 with
    | none, h3 => exact absurd h3 (by show (0 : Int).toNat ≠ k + 1; exact (Nat.succ_ne_zero k).symm)
    | some q, h3 =>
      have : q = k := by
        have h3 : ((q : Int) + 1).toNat = k + 1 := h3
        omega
      exact ⟨q, rfl, by rw [this]; exact h4⟩
  · exact absurd rfl hne
/-! facts -/
def ea_ieq (a b : Int) : Bool := match a with
  | .ofNat m => match b with
    | .ofNat n => Nat.beq m n
    | .negSucc _ => false
  | .negSucc m => match b with
    | .ofNat _ => false
    | .negSucc n => Nat.beq m n
theorem ea_ieq_ok {a b : Int} (h : ea_ieq a b = true) : a = b := by
  unfold ea_ieq at h
  split at h
  · split at h
    · rw [Nat.eq_of_beq_eq_true h]
    · cases h
  · split at h
    · cases h
    · rw [Nat.eq_of_beq_eq_true h]
def ea_leq : List (Nat × Int) → List (Nat × Int) → Bool
  | [], [] => true
  | p :: l, q :: m => Nat.beq p.1 q.1 && ea_ieq p.2 q.2 && ea_leq l m
  | _, _ => false
theorem ea_leq_ok : ∀ {l m : List (Nat × Int)}, ea_leq l m = true → l = m
  | [], [], _ => rfl
  | p :: l, q :: m, h => by
    unfold ea_leq at h
    rw [Bool.and_eq_true, Bool.and_eq_true] at h
    rw [ea_leq_ok h.2, show p = q from Prod.ext (Nat.eq_of_beq_eq_true h.1.1) (ea_ieq_ok h.1.2)]
  | [], _ :: _, h => by cases h
  | _ :: _, [], h => by cases h
def ea_teq (a b : eT) : Bool := ea_ieq a.1 b.1 && ea_leq a.2 b.2
theorem ea_teq_ok {a b : eT} (h : ea_teq a b = true) : a = b := by
  unfold ea_teq at h
  rw [Bool.and_eq_true] at h
  exact Prod.ext (ea_ieq_ok h.1) (ea_leq_ok h.2)
def ef_g (F : List eF) (k y : Nat) (t : eT) : Option eV := match F with
  | [] => none
  | f :: l => if Nat.beq f.1 k && Nat.beq f.2.1 y && ea_teq f.2.2.1 t then some f.2.2.2 else ef_g l k y t
theorem ef_g_ok : ∀ {F : List eF} {k y : Nat} {t : eT} {a : eV}, ef_g F k y t = some a → (k, y, t, a) ∈ F
  | [], _, _, _, _, h => by cases h
  | f :: l, k, y, t, a, h => by
    unfold ef_g at h
    split at h
    · next h1 =>
      cases h
      rw [Bool.and_eq_true, Bool.and_eq_true] at h1
      obtain ⟨⟨h1, h2⟩, h3⟩ := h1
      obtain ⟨f1, f2, f3, f4⟩ := f
      have h1 := Nat.eq_of_beq_eq_true h1
      have h2 := Nat.eq_of_beq_eq_true h2
      have h3 := ea_teq_ok h3
      dsimp only at h1 h2 h3 ⊢
      subst h1 h2 h3
      exact List.mem_cons_self ..
    · exact List.mem_cons_of_mem _ (ef_g_ok h)
theorem ef_g_R {ρ : List Int} {F : List eF} {h : pH} (hF : f_F ρ F h) {k y : Nat} {t : eT} {a : eV} (hg : ef_g F k y t = some a) {j : Int} (hj : ev_t ρ t j) {v : pv} (hv : h_c h k y j = some v) : v_R ρ a v := by
  obtain ⟨j', v', h1, h2, h3⟩ := hF _ (ef_g_ok hg)
  have e := ev_t_fn h1 hj
  subst e
  rw [hv] at h2
  cases h2
  exact h3
/-! joins over roles -/
def e_j {α : Type} (a b : eE) (k : eE → α) : α := ea_f (eo_min a.1 b.1) (fun lo => ea_f (eo_max a.2.1 b.2.1) (fun hi => match a.2.2 with
  | [] => k (lo, hi, [])
  | x :: s => match b.2.2 with
    | [] => k (lo, hi, [])
    | y :: s' => xe_fl ((x :: s) ++ (y :: s')) (fun l => k (lo, hi, l))))
def e_j0 (a b : eE) : eE := (eo_min a.1 b.1, eo_max a.2.1 b.2.1, match a.2.2 with
  | [] => []
  | x :: s => match b.2.2 with
    | [] => []
    | y :: s' => (x :: s) ++ (y :: s'))
theorem e_j_eq {α : Type} (a b : eE) (k : eE → α) : e_j a b k = k (e_j0 a b) := by
  unfold e_j e_j0
  rw [ea_f_eq, ea_f_eq]
  split
  · rfl
  · split
    · rfl
    · rw [xe_fl_eq]
theorem e_j0_l {a b : eE} {x : Int} (h : ok_v x a) : ok_v x (e_j0 a b) := by
  have h1 := eo_min_l a.1 b.1
  have h2 := eo_max_l a.2.1 b.2.1
  refine ⟨by show eo_min a.1 b.1 ≤ x; have := h.1; omega, by show x ≤ eo_max a.2.1 b.2.1; have := h.2.1; omega, ?_⟩
  have h3 := h.2.2
  show (match a.2.2 with
    | [] => []
    | x :: s => match b.2.2 with
      | [] => []
      | y :: s' => (x :: s) ++ (y :: s')) = [] ∨ _ ∈ (match a.2.2 with
    | [] => []
    | x :: s => match b.2.2 with
      | [] => []
      | y :: s' => (x :: s) ++ (y :: s'))
  split
  · exact Or.inl rfl
  · next s z hs =>
    split
    · exact Or.inl rfl
    · rw [hs] at h3
      exact Or.inr (List.mem_append_left _ (h3.resolve_left (fun e => by cases e)))
theorem e_j0_r {a b : eE} {x : Int} (h : ok_v x b) : ok_v x (e_j0 a b) := by
  have h1 := eo_min_r a.1 b.1
  have h2 := eo_max_r a.2.1 b.2.1
  refine ⟨by show eo_min a.1 b.1 ≤ x; have := h.1; omega, by show x ≤ eo_max a.2.1 b.2.1; have := h.2.1; omega, ?_⟩
  have h3 := h.2.2
  show (match a.2.2 with
    | [] => []
    | x :: s => match b.2.2 with
      | [] => []
      | y :: s' => (x :: s) ++ (y :: s')) = [] ∨ _ ∈ (match a.2.2 with
    | [] => []
    | x :: s => match b.2.2 with
      | [] => []
      | y :: s' => (x :: s) ++ (y :: s'))
  split
  · exact Or.inl rfl
  · split
    · exact Or.inl rfl
    · next s' z hs =>
      rw [hs] at h3
      exact Or.inr (List.mem_append_right _ (h3.resolve_left (fun e => by cases e)))
def e_js {α : Type} (f : Nat → eE) : List Nat → (eE → α) → α
  | [], k => k (0, 0, [])
  | [a], k => k (f a)
  | a :: l, k => e_js f l (fun e => e_j (f a) e k)
def e_j1 (f : Nat → eE) : List Nat → eE
  | [] => (0, 0, [])
  | [a] => f a
  | a :: b :: l => e_j0 (f a) (e_j1 f (b :: l))
theorem e_js_eq {α : Type} (f : Nat → eE) : ∀ (l : List Nat) (k : eE → α), e_js f l k = k (e_j1 f l)
  | [], k => rfl
  | [a], k => rfl
  | a :: b :: l, k => by
    show e_js f (b :: l) (fun e => e_j (f a) e k) = _
    rw [e_js_eq f (b :: l), e_j_eq]
    rfl
theorem e_j1_ok (f : Nat → eE) : ∀ {l : List Nat} {k : Nat} {x : Int}, k ∈ l → ok_v x (f k) → ok_v x (e_j1 f l)
  | [], _, _, hm, _ => absurd hm List.not_mem_nil
  | [a], k, x, hm, h => by
    rw [List.mem_singleton.mp hm] at h
    exact h
  | a :: b :: l, k, x, hm, h => by
    rcases List.mem_cons.mp hm with rfl | hm
    · exact e_j0_l h
    · exact e_j0_r (e_j1_ok f hm h)
