/-! the reckoner with bounds: states, and what they stand for. eL: kind and class or length of each role; eB: the number of its first cell -/
def eL : List (Nat × Nat) := [(0, 11), (1, 260), (0, 8), (4, 32), (0, 7), (1, 25), (0, 7), (1, 25), (0, 7), (1, 25), (0, 7), (1, 25), (0, 7), (1, 25), (0, 7), (1, 25), (0, 7), (1, 25), (0, 7), (1, 25), (0, 7), (1, 25), (0, 7), (1, 25), (0, 7), (1, 25), (0, 7), (1, 25), (0, 7), (1, 25), (0, 7), (1, 25), (0, 7), (1, 25), (0, 7), (1, 25), (0, 7), (1, 25), (0, 7), (1, 25), (0, 7), (1, 25), (0, 7), (1, 25), (0, 7), (1, 25), (0, 7), (1, 25), (0, 7), (1, 25), (0, 7), (1, 25), (0, 7), (1, 25), (0, 7), (1, 25), (0, 7), (1, 25), (0, 7), (1, 25), (0, 7), (1, 25), (0, 7), (1, 25), (0, 7), (1, 25), (0, 7), (1, 25), (1, 8), (1, 8), (0, 6), (1, 24), (1, 24), (0, 6), (1, 12), (1, 12), (0, 8), (4, 32), (0, 7), (1, 25), (0, 7), (1, 25), (0, 7), (1, 25), (0, 7), (1, 25), (0, 7), (1, 25), (0, 7), (1, 25), (0, 7), (1, 25), (0, 7), (1, 25), (0, 7), (1, 25), (0, 7), (1, 25), (0, 7), (1, 25), (0, 7), (1, 25), (0, 7), (1, 25), (0, 7), (1, 25), (0, 7), (1, 25), (0, 7), (1, 25), (0, 7), (1, 25), (0, 7), (1, 25), (0, 7), (1, 25), (0, 7), (1, 25), (0, 7), (1, 25), (0, 7), (1, 25), (0, 7), (1, 25), (0, 7), (1, 25), (0, 7), (1, 25), (0, 7), (1, 25), (0, 7), (1, 25), (0, 7), (1, 25), (0, 7), (1, 25), (0, 7), (1, 25), (0, 7), (1, 25), (0, 7), (1, 25), (1, 8), (1, 8), (0, 6), (1, 24), (1, 24), (0, 6), (1, 12), (1, 12), (0, 9), (1, 60), (0, 9), (1, 60), (0, 4), (1, 0), (0, 3), (1, 240), (1, 240), (1, 16), (1, 16), (1, 16), (1, 16), (1, 40), (0, 2), (0, 3), (1, 240), (1, 240), (1, 16), (1, 16), (1, 16), (1, 16), (1, 40), (1, 11), (0, 1), (1, 32), (1, 8), (0, 10), (1, 8), (1, 8), (1, 8), (1, 256), (1, 2048), (1, 7), (0, 0), (1, 12), (1, 12), (3, 12), (1, 12), (0, 5), (1, 12), (1, 32), (1, 12), (1, 4096), (1, 4096), (1, 144), (0, 12), (1, 42), (1, 42), (1, 32), (1, 32), (1, 32), (1, 32), (1, 8), (1, 8), (1, 32), (1, 24), (1, 24), (1, 12), (1, 12), (2, 800), (2, 260), (1, 60), (1, 60), (1, 4), (1, 4), (1, 260), (1, 260), (1, 16), (1, 16), (1, 16), (1, 16), (1, 260), (1, 16), (1, 16), (1, 16), (1, 16), (1, 260), (1, 11), (1, 8), (1, 8), (1, 7), (1, 7), (1, 7), (1, 7), (1, 12), (1, 12), (3, 12), (1, 12), (1, 12), (3, 4096), (1, 42), (1, 32), (1, 32), (1, 32), (1, 32), (1, 8), (1, 8), (1, 32), (1, 24), (1, 24), (1, 12), (1, 12), (2, 800)]
def eB : List Nat := [0, 13, 14, 22, 23, 33, 34, 44, 45, 55, 56, 66, 67, 77, 78, 88, 89, 99, 100, 110, 111, 121, 122, 132, 133, 143, 144, 154, 155, 165, 166, 176, 177, 187, 188, 198, 199, 209, 210, 220, 221, 231, 232, 242, 243, 253, 254, 264, 265, 275, 276, 286, 287, 297, 298, 308, 309, 319, 320, 330, 331, 341, 342, 352, 353, 363, 364, 374, 375, 376, 377, 380, 381, 382, 385, 386, 387, 395, 396, 406, 407, 417, 418, 428, 429, 439, 440, 450, 451, 461, 462, 472, 473, 483, 484, 494, 495, 505, 506, 516, 517, 527, 528, 538, 539, 549, 550, 560, 561, 571, 572, 582, 583, 593, 594, 604, 605, 615, 616, 626, 627, 637, 638, 648, 649, 659, 660, 670, 671, 681, 682, 692, 693, 703, 704, 714, 715, 725, 726, 736, 737, 747, 748, 749, 750, 753, 754, 755, 758, 759, 760, 766, 767, 773, 774, 779, 780, 790, 791, 792, 793, 794, 795, 796, 797, 800, 810, 811, 812, 813, 814, 815, 816, 817, 818, 829, 830, 831, 838, 839, 840, 841, 842, 843, 844, 852, 853, 854, 855, 856, 866, 867, 868, 869, 870, 871, 872, 962, 963, 964, 965, 966, 967, 968, 969, 970, 971, 972, 973, 974, 975, 976, 977, 978, 979, 980, 981, 982, 983, 984, 985, 986, 987, 988, 989, 990, 991, 992, 993, 994, 995, 996, 997, 998, 999, 1000, 1001, 1002, 1003, 1004, 1005, 1006, 1007, 1008, 1009, 1010, 1011, 1012, 1013, 1014, 1015, 1016, 1017, 1018]
def cn (k : Nat) : Nat := eB.getD k 0
def cv (v : pv) : Int := match v with
  | .inl x => x.toInt
  | .inr (.inl x) => x.toInt
  | .inr (.inr none) => 0
  | .inr (.inr (some k)) => (k : Int) + 1
def ct (v : pv) : Nat := match v with
  | .inl _ => 0
  | .inr (.inl _) => 1
  | .inr (.inr _) => 2
def v_R (ρ : List Int) (a : eV) (v : pv) : Prop := if a.1 = 3 then ∃ x : Int32, v = .inl x ∧ ∃ y, ev_t ρ a.2 y ∧ (x.toInt < 0 ↔ y < 0) ∧ (x.toInt = 0 ↔ y = 0) else ct v = a.1 ∧ ev_t ρ a.2 (cv v)
theorem v_R_mono {ρ ρ' : List Int} (h : ρ <+: ρ') {a : eV} {v : pv} (hv : v_R ρ a v) : v_R ρ' a v := by
  unfold v_R at hv ⊢
  split at hv
  · next h3 =>
    rw [if_pos h3]
    obtain ⟨x, rfl, y, h1, h2⟩ := hv
    exact ⟨x, rfl, y, ev_t_mono h h1, h2⟩
  · next h3 =>
    rw [if_neg h3]
    exact ⟨hv.1, ev_t_mono h hv.2⟩
theorem v_R_i {ρ : List Int} {a : eV} {v : pv} (h0 : a.1 = 0) (hv : v_R ρ a v) : ∃ x : Int32, v = .inl x ∧ ev_t ρ a.2 x.toInt := by
  unfold v_R at hv
  rw [if_neg (by omega)] at hv
  obtain ⟨h1, h2⟩ := hv
  rw [h0] at h1
  match v, h1, h2 with
  | .inl x, _, h2 => exact ⟨x, rfl, h2⟩
theorem v_R_l {ρ : List Int} {a : eV} {v : pv} (h0 : a.1 = 1) (hv : v_R ρ a v) : ∃ x : Int64, v = .inr (.inl x) ∧ ev_t ρ a.2 x.toInt := by
  unfold v_R at hv
  rw [if_neg (by omega)] at hv
  obtain ⟨h1, h2⟩ := hv
  rw [h0] at h1
  match v, h1, h2 with
  | .inr (.inl x), _, h2 => exact ⟨x, rfl, h2⟩
theorem v_R_r {ρ : List Int} {a : eV} {v : pv} (h0 : a.1 = 2) (hv : v_R ρ a v) : ∃ x : Option Nat, v = .inr (.inr x) ∧ ev_t ρ a.2 (cv v) := by
  unfold v_R at hv
  rw [if_neg (by omega)] at hv
  obtain ⟨h1, h2⟩ := hv
  rw [h0] at h1
  match v, h1, h2 with
  | .inr (.inr x), _, h2 => exact ⟨x, rfl, h2⟩
theorem v_R_mk {ρ : List Int} {t : eT} {v : pv} {n : Nat} (h : ct v = n) (hv : ev_t ρ t (cv v)) : v_R ρ (n, t) v := by
  unfold v_R
  have h3 : ct v ≠ 3 := by
    match v with
    | .inl x => exact (by decide : (0 : Nat) ≠ 3)
    | .inr (.inl x) => exact (by decide : (1 : Nat) ≠ 3)
    | .inr (.inr x) => exact (by decide : (2 : Nat) ≠ 3)
  rw [if_neg (by show ¬ n = 3; omega)]
  exact ⟨h, hv⟩
theorem v_R_of {ρ : List Int} {a : eV} {v : pv} (h3 : a.1 ≠ 3) (hv : v_R ρ a v) : ct v = a.1 ∧ ev_t ρ a.2 (cv v) := by
  unfold v_R at hv
  rw [if_neg h3] at hv
  exact hv
/-- what stands in a cell -/
def h_c (h : pH) (k y : Nat) (j : Int) : Option pv := match eL[k]? with
  | some t => match t.1 with
    | 0 => if y < pnf t.2 then some (pF h t.2 k y) else none
    | 1 => some (.inl (h.2.2.2.1 k j.toNat))
    | 2 => some (.inl (h.2.2.2.1 k j.toNat))
    | 3 => some (.inr (.inl (h.2.2.2.2.1 k j.toNat)))
    | _ => some (.inr (.inr (h.2.2.2.2.2 k j.toNat)))
  | none => none
/-- the standing picture of the heap -/
def g_I (G : Nat → eE) (h : pH) : Prop := ∀ (k : Nat) (t : Nat × Nat), eL[k]? = some t → (t.1 = 0 → ∀ y, y < pnf t.2 → ok_v (cv (pF h t.2 k y)) (G (cn k + y))) ∧ (t.1 = 1 ∨ t.1 = 2 → ∀ j, j < t.2 → ok_v (h.2.2.2.1 k j).toInt (G (cn k))) ∧ (t.1 = 3 → ∀ j, j < t.2 → ok_v (h.2.2.2.2.1 k j).toInt (G (cn k))) ∧ (t.1 = 4 → ∀ j, j < t.2 → ok_v (cv (.inr (.inr (h.2.2.2.2.2 k j)))) (G (cn k)))
/-- unlike at the cells of a set alone -/
def f_M (W : Nat) (h0 h : pH) : Prop := (∀ k y : Nat, W.testBit (cn k + y) = false → h.1 k y = h0.1 k y ∧ h.2.1 k y = h0.2.1 k y ∧ h.2.2.1 k y = h0.2.2.1 k y) ∧ ∀ k : Nat, W.testBit (cn k) = false → h.2.2.2.1 k = h0.2.2.2.1 k ∧ h.2.2.2.2.1 k = h0.2.2.2.2.1 k ∧ h.2.2.2.2.2 k = h0.2.2.2.2.2 k
theorem f_M_rf (W : Nat) (h : pH) : f_M W h h := ⟨fun _ _ _ => ⟨rfl, rfl, rfl⟩, fun _ _ => ⟨rfl, rfl, rfl⟩⟩
theorem f_M_tr {W V : Nat} {h0 h1 h2 : pH} (hW : V &&& W = V) (a : f_M W h0 h1) (b : f_M V h1 h2) : f_M W h0 h2 := by
  have hb : ∀ i, W.testBit i = false → V.testBit i = false := fun i hi => by
    rw [← hW, Nat.testBit_and, hi, Bool.and_false]
  refine ⟨fun k y hk => ?_, fun k hk => ?_⟩
  · have x := a.1 k y hk
    have z := b.1 k y (hb _ hk)
    exact ⟨z.1.trans x.1, z.2.1.trans x.2.1, z.2.2.trans x.2.2⟩
  · have x := a.2 k hk
    have z := b.2 k (hb _ hk)
    exact ⟨z.1.trans x.1, z.2.1.trans x.2.1, z.2.2.trans x.2.2⟩
/-- a cell that stays, as it is read -/
theorem f_M_c {W : Nat} {h0 h : pH} (a : f_M W h0 h) {k y : Nat} {j : Int} {v : pv} (hv : h_c h0 k y j = some v) (h1 : ∀ t, eL[k]? = some t → t.1 = 0 → W.testBit (cn k + y) = false) (h2 : ∀ t, eL[k]? = some t → t.1 ≠ 0 → W.testBit (cn k) = false) : h_c h k y j = some v := by
  unfold h_c at hv ⊢
  cases ht : eL[k]? with
  | none => rw [ht] at hv; cases hv
  | some t =>
    rw [ht] at hv
    obtain ⟨t1, t2⟩ := t
    dsimp only at hv ⊢
    match t1, ht, hv with
    | 0, ht, hv =>
      have x := a.1 k y (h1 _ ht rfl)
      have e : pF h t2 k y = pF h0 t2 k y := by
        unfold pF
        split <;> simp [x.1, x.2.1, x.2.2]
      rw [e]
      exact hv
    | 1, ht, hv => rw [(a.2 k (h2 _ ht (Nat.succ_ne_zero _))).1]; exact hv
    | 2, ht, hv => rw [(a.2 k (h2 _ ht (Nat.succ_ne_zero _))).1]; exact hv
    | 3, ht, hv => rw [(a.2 k (h2 _ ht (Nat.succ_ne_zero _))).2.1]; exact hv
    | n + 4, ht, hv =>
      have x := a.2 k (h2 _ ht (Nat.succ_ne_zero _))
      rw [x.2.2]
      exact hv
def f_F (ρ : List Int) (F : List eF) (h : pH) : Prop := ∀ f ∈ F, ∃ j v, ev_t ρ f.2.2.1 j ∧ h_c h f.1 f.2.1 j = some v ∧ v_R ρ f.2.2.2 v
theorem f_F_mono {ρ ρ' : List Int} (h : ρ <+: ρ') {F : List eF} {hp : pH} (hf : f_F ρ F hp) : f_F ρ' F hp := fun f hm => by
  obtain ⟨j, v, h1, h2, h3⟩ := hf f hm
  exact ⟨j, v, ev_t_mono h h1, h2, v_R_mono h h3⟩
def l_R (ρ : List Int) (L : List (Nat × eV)) (lv : List (Nat × pv)) : Prop := ∀ p ∈ L, ∃ v, px_lg lv p.1 = some v ∧ v_R ρ p.2 v
theorem l_R_mono {ρ ρ' : List Int} (h : ρ <+: ρ') {L : List (Nat × eV)} {lv : List (Nat × pv)} (hf : l_R ρ L lv) : l_R ρ' L lv := fun p hm => by
  obtain ⟨v, h1, h2⟩ := hf p hm
  exact ⟨v, h1, v_R_mono h h2⟩
def s_R (ρ : List Int) : List eV → List pv → Prop
  | [], [] => True
  | a :: S, v :: st => v_R ρ a v ∧ s_R ρ S st
  | _, _ => False
theorem s_R_mono {ρ ρ' : List Int} (h : ρ <+: ρ') : ∀ {S : List eV} {st : List pv}, s_R ρ S st → s_R ρ' S st
  | [], [], _ => trivial
  | a :: S, v :: st, hs => ⟨v_R_mono h hs.1, s_R_mono h hs.2⟩
theorem s_R_cons {ρ : List Int} {a : eV} {S : List eV} {st : List pv} (h : s_R ρ (a :: S) st) : ∃ v r, st = v :: r ∧ v_R ρ a v ∧ s_R ρ S r := by
  match st, h with
  | v :: r, h => exact ⟨v, r, rfl, h.1, h.2⟩
theorem s_R_nil {ρ : List Int} {st : List pv} (h : s_R ρ [] st) : st = [] := by
  match st, h with
  | [], _ => rfl
/-- what goes with a run: the picture, what else holds of the heap, the heap at first, the cells that may be written, the depth -/
abbrev eX : Type := (Nat → eE) × (pH → Prop) × pH × Nat × Nat
def b_R (c : eX) (ρ : List Int) (A : eS) (h : pH) : Prop := ρ.length = A.1 ∧ ok_e ρ A.2.1 ∧ ok_c ρ A.2.2.1 ∧ f_F ρ A.2.2.2.1 h ∧ g_I c.1 h ∧ c.2.1 h ∧ f_M c.2.2.2.1 c.2.2.1 h ∧ ρ[0]? = some (c.2.2.2.2 : Int)
def r_R (c : eX) (ρ : List Int) (A : eS) (lv : List (Nat × pv)) (st : List pv) (h : pH) : Prop := b_R c ρ A h ∧ l_R ρ A.2.2.2.2.1 lv ∧ s_R ρ A.2.2.2.2.2 st
def es_S (A : eS) (S : List eV) : eS := (A.1, A.2.1, A.2.2.1, A.2.2.2.1, A.2.2.2.2.1, S)
def es_L (A : eS) (L : List (Nat × eV)) (S : List eV) : eS := (A.1, A.2.1, A.2.2.1, A.2.2.2.1, L, S)
def es_E (A : eS) (env : List (Nat × eE)) (C : List eT) : eS := (A.1, env, C, A.2.2.2.1, A.2.2.2.2.1, A.2.2.2.2.2)
def es_F (A : eS) (F : List eF) : eS := (A.1, A.2.1, A.2.2.1, F, A.2.2.2.2.1, A.2.2.2.2.2)
theorem b_R_E {c : eX} {ρ : List Int} {A : eS} {h : pH} (hb : b_R c ρ A h) {env : List (Nat × eE)} {C : List eT} (h1 : ok_e ρ env) (h2 : ok_c ρ C) : b_R c ρ (es_E A env C) h := ⟨hb.1, h1, h2, hb.2.2.2⟩
/-- a new symbol -/
def ea_new (A : eS) (e : eE) : eS := (A.1 + 1, (A.1, e) :: A.2.1, A.2.2.1, A.2.2.2.1, A.2.2.2.2.1, A.2.2.2.2.2)
theorem ea_new_ok {c : eX} {ρ : List Int} {A : eS} {h : pH} (hb : b_R c ρ A h) {e : eE} {x : Int} (hx : ok_v x e) : ρ <+: ρ ++ [x] ∧ b_R c (ρ ++ [x]) (ea_new A e) h ∧ (ρ ++ [x])[A.1]? = some x := by
  have hp : ρ <+: ρ ++ [x] := List.prefix_append _ _
  have hi : (ρ ++ [x])[A.1]? = some x := by rw [← hb.1, List.getElem?_append_right (Nat.le_refl _), Nat.sub_self]; rfl
  refine ⟨hp, ⟨?_, ?_, ok_c_mono hp hb.2.2.1, f_F_mono hp hb.2.2.2.1, hb.2.2.2.2.1, hb.2.2.2.2.2.1, hb.2.2.2.2.2.2.1, ev_pre hp hb.2.2.2.2.2.2.2⟩, hi⟩
  · show (ρ ++ [x]).length = A.1 + 1
    rw [List.length_append, hb.1]
    rfl
  · intro q hq
    rcases List.mem_cons.mp hq with hq | hq
    · subst hq
      exact ⟨x, hi, hx⟩
    · exact ok_e_mono hp hb.2.1 q hq
/-- a value between bounds (or out of a set): what it is called, and the state behind -/
def ea_val (A : eS) (n : Nat) (e : eE) : eV × eS := match e.2.2 with
  | [] => if ea_le e.2.1 e.1 then ((n, (e.1, [])), A) else ((n, (0, [(A.1, 1)])), ea_new A e)
  | _ => ((n, (0, [(A.1, 1)])), ea_new A e)
theorem ea_val_ok {c : eX} {ρ : List Int} {A : eS} {h : pH} (hb : b_R c ρ A h) (n : Nat) {e : eE} {x : Int} (hx : ok_v x e) : ∃ ρ', ρ <+: ρ' ∧ b_R c ρ' (ea_val A n e).2 h ∧ (ea_val A n e).1.1 = n ∧ ev_t ρ' (ea_val A n e).1.2 x ∧ (ea_val A n e).2.2.2.2.2 = A.2.2.2.2 := by
  have hn : ∃ ρ', ρ <+: ρ' ∧ b_R c ρ' (ea_new A e) h ∧ n = n ∧ ev_t ρ' (0, [(A.1, 1)]) x ∧ (ea_new A e).2.2.2.2 = A.2.2.2.2 := by
    obtain ⟨h1, h2, h3⟩ := ea_new_ok hb hx
    exact ⟨_, h1, h2, rfl, ev_v h3, rfl⟩
  unfold ea_val
  split
  · split
    · next h1 =>
      have h1 := ea_le_iff.mp h1
      have : x = e.1 := by have := hx.1; have := hx.2.1; omega
      exact ⟨ρ, List.prefix_rfl, hb, rfl, by rw [this]; exact ev_c _, rfl⟩
    · exact hn
  · exact hn
