/-! the tie: told slides of the class (printed by wip/e2/t1.py) -/
theorem qtc_0 : xe_look (xc 83) 0 = some (.iconst 0, 1, 0, 0, 0) := by decide +kernel
theorem qtc_1 : xe_look (xc 83) 1 = some (.istore_n 1, 1, 0, 0, 0) := by decide +kernel
theorem qtc_2 : xe_look (xc 83) 2 = some (.iconst 0, 1, 0, 0, 0) := by decide +kernel
theorem qtc_3 : xe_look (xc 83) 3 = some (.istore_n 2, 1, 0, 0, 0) := by decide +kernel
theorem qtc_4 : xe_look (xc 83) 4 = some (.iload_n 2, 1, 0, 0, 0) := by decide +kernel
theorem qtc_5 : xe_look (xc 83) 5 = some (.bipush 32, 2, 0, 0, 0) := by decide +kernel
theorem qtc_7 : xe_look (xc 83) 7 = some (.if_icmp .ge 29, 3, 0, 0, 0) := by decide +kernel
theorem qtc_10 : xe_look (xc 83) 10 = some (.iload_n 1, 1, 0, 0, 0) := by decide +kernel
theorem qtc_11 : xe_look (xc 83) 11 = some (.aload_n 0, 1, 0, 0, 0) := by decide +kernel
theorem qtc_12 : xe_look (xc 83) 12 = some (.getfield 11, 3, 8, 0, 924) := by decide +kernel
theorem qtc_15 : xe_look (xc 83) 15 = some (.iload_n 2, 1, 0, 0, 0) := by decide +kernel
theorem qtc_16 : xe_look (xc 83) 16 = some (.aaload, 1, 0, 0, 0) := by decide +kernel
theorem qtc_17 : xe_look (xc 83) 17 = some (.getfield 48, 3, 7, 2, 941) := by decide +kernel
theorem qtc_20 : xe_look (xc 83) 20 = some (.ifCond .eq 7, 3, 0, 0, 0) := by decide +kernel
theorem qtc_23 : xe_look (xc 83) 23 = some (.iconst 1, 1, 0, 0, 0) := by decide +kernel
theorem qtc_24 : xe_look (xc 83) 24 = some (.goto 4, 3, 0, 0, 0) := by decide +kernel
theorem qtc_27 : xe_look (xc 83) 27 = some (.iconst 0, 1, 0, 0, 0) := by decide +kernel
theorem qtc_28 : xe_look (xc 83) 28 = some (.iadd, 1, 0, 0, 0) := by decide +kernel
theorem qtc_29 : xe_look (xc 83) 29 = some (.istore_n 1, 1, 0, 0, 0) := by decide +kernel
theorem qtc_30 : xe_look (xc 83) 30 = some (.iinc 2 1, 3, 0, 0, 0) := by decide +kernel
theorem qtc_33 : xe_look (xc 83) 33 = some (.goto (-29), 3, 0, 0, 0) := by decide +kernel
theorem qtc_36 : xe_look (xc 83) 36 = some (.iload_n 1, 1, 0, 0, 0) := by decide +kernel
theorem qtc_37 : xe_look (xc 83) 37 = some (.ireturn, 1, 0, 0, 0) := by decide +kernel
theorem qtd_0 : xe_look (xc 84) 0 = some (.iload_n 1, 1, 0, 0, 0) := by decide +kernel
theorem qtd_1 : xe_look (xc 84) 1 = some (.iconst 0, 1, 0, 0, 0) := by decide +kernel
theorem qtd_2 : xe_look (xc 84) 2 = some (.bipush 31, 2, 0, 0, 0) := by decide +kernel
theorem qtd_4 : xe_look (xc 84) 4 = some (.invokestatic 44, 3, 1, 124, 6) := by decide +kernel
theorem qtd_7 : xe_look (xc 84) 7 = some (.ifCond .eq 24, 3, 0, 0, 0) := by decide +kernel
theorem qtd_10 : xe_look (xc 84) 10 = some (.aload_n 0, 1, 0, 0, 0) := by decide +kernel
theorem qtd_11 : xe_look (xc 84) 11 = some (.getfield 11, 3, 8, 0, 924) := by decide +kernel
theorem qtd_14 : xe_look (xc 84) 14 = some (.iload_n 1, 1, 0, 0, 0) := by decide +kernel
theorem qtd_15 : xe_look (xc 84) 15 = some (.aaload, 1, 0, 0, 0) := by decide +kernel
theorem qtd_16 : xe_look (xc 84) 16 = some (.getfield 48, 3, 7, 2, 941) := by decide +kernel
theorem qtd_19 : xe_look (xc 84) 19 = some (.ifCond .eq 12, 3, 0, 0, 0) := by decide +kernel
theorem qtd_22 : xe_look (xc 84) 22 = some (.aload_n 0, 1, 0, 0, 0) := by decide +kernel
theorem qtd_23 : xe_look (xc 84) 23 = some (.getfield 11, 3, 8, 0, 924) := by decide +kernel
theorem qtd_26 : xe_look (xc 84) 26 = some (.iload_n 1, 1, 0, 0, 0) := by decide +kernel
theorem qtd_27 : xe_look (xc 84) 27 = some (.aaload, 1, 0, 0, 0) := by decide +kernel
theorem qtd_28 : xe_look (xc 84) 28 = some (.goto 4, 3, 0, 0, 0) := by decide +kernel
theorem qtd_31 : xe_look (xc 84) 31 = some (.aconst_null, 1, 0, 0, 0) := by decide +kernel
theorem qtd_32 : xe_look (xc 84) 32 = some (.areturn, 1, 0, 0, 0) := by decide +kernel
theorem er_2 : eL[2]? = some (0, 8) := by decide +kernel
theorem cg_2_0 : (eG (cn 2 + 0)).2.2 = [4] := by decide +kernel
theorem cr_2_0 {d i : Nat} {lv : List (Nat × pv)} {r : List pv} {g : pH} (hG : g_I eG g) : px_push eL d none (.getfield i) 8 0 lv (pvR 2 :: r) g = some (pvR 3 :: r) := pget er_2 (gI_r (r := 3) hG er_2 (Nat.le_of_ble_eq_true rfl) (y := 0) rfl cg_2_0)
theorem gs_told {m : Nat} (h : m < 32) : eG (cn (4 + 2 * m) + 2) = (0, 1, []) ∧ eG (cn (78 + 2 * m) + 2) = (0, 1, []) := by
  have : ∀ m, m < 32 → eG (cn (4 + 2 * m) + 2) = (0, 1, []) ∧ eG (cn (78 + 2 * m) + 2) = (0, 1, []) := by decide +kernel
  exact this m h
theorem cs4_2 {m : Nat} (hm : m < 32) {g : pH} (hG : g_I eG g) : 0 ≤ cF g (4 + 2 * m) 2 ∧ cF g (4 + 2 * m) 2 ≤ 1 := cb_z hG (el_s4 hm) (Nat.le_of_ble_eq_true rfl) rfl (gs_told hm).1
theorem cs78_2 {m : Nat} (hm : m < 32) {g : pH} (hG : g_I eG g) : 0 ≤ cF g (78 + 2 * m) 2 ∧ cF g (78 + 2 * m) 2 ≤ 1 := cb_z hG (el_s78 hm) (Nat.le_of_ble_eq_true rfl) rfl (gs_told hm).2
/-- a slide that is told -/
def toC (g : pH) (i : Int) : Prop := ∃ m : Nat, m < 32 ∧ i = m ∧ cF g (4 + 2 * m) 2 = 1
theorem td_run {d : Nat} (hd : 1 ≤ d) {g : pH} (hG : g_I eG g) (hS : rS g) {i : Int} (hi : -2147483648 ≤ i ∧ i ≤ 2147483647) {P : Option pv × pH → Prop} (h1 : ∀ m : Nat, m < 32 → i = m → cF g (4 + 2 * m) 2 = 1 → P (some (pvR (4 + 2 * m)), g)) (h0 : ¬ toC g i → P (some (.inr (.inr none)), g)) {lv : List (Nat × pv)} (l0 : px_lg lv 0 = some (pvR 2)) (l1 : px_lg lv 1 = some (oI i)) : t_X d 84 0 lv [] g P := by
  have hJ : J_ 0 g g := J_rf hG
  by_cases hr : 0 ≤ i ∧ i ≤ 31
  · obtain ⟨m, rfl⟩ : ∃ m : Nat, i = m := ⟨i.toNat, by omega⟩
    have hm : m < 32 := by omega
    refine t_0 qtd_0 rfl (ld_i l1) ?_
    refine t_0 qtd_1 rfl rfl ?_
    refine t_0 qtd_2 rfl (pq_b (by decide)) ?_
    refine t_3 qtd_4 rfl (ar := ([oI ((m : Int)), oI (0), oI (31)], [])) (pcal_s ⟨Or.inr rfl, rfl, Nat.le_of_ble_eq_true rfl⟩) ⟨by omega, Nat.le_of_ble_eq_true rfl, Nat.le_of_ble_eq_true rfl, rfl⟩ ?_
    refine ii_run ⟨by omega, by omega⟩ ⟨by omega, by omega⟩ ⟨by omega, by omega⟩ rfl rfl rfl (fun t1 => ?_) (fun t1 => absurd t1 (by omega))
    show t_X d 84 7 lv [oI (1)] g P
    refine tz_eq qtd_7 (by decide) ⟨by omega, by omega⟩ (fun c2 => absurd c2 (by omega)) (fun c2 => ?_)
    show t_X d 84 10 lv [] g P
    refine t_0 qtd_10 rfl (ld_a l0) ?_
    refine t_0 qtd_11 rfl (cr_2_0 hJ.1) ?_
    refine t_0 qtd_14 rfl (ld_i l1) ?_
    refine t_0 qtd_15 rfl (pq_a3 hS hm (by omega)) ?_
    have r3 := cs4_2 hm hJ.1
    refine t_0 qtd_16 rfl (pq_cz (y := 2) (el_s4 hm) rfl) ?_
    refine tz_eq qtd_19 (by decide) ⟨by omega, by omega⟩ (fun c4 => ?_) (fun c4 => ?_)
    · show t_X d 84 31 lv [] g P
      refine t_0 qtd_31 rfl rfl ?_
      refine t_5 qtd_32 rfl rfl ?_
      exact h0 (fun z => by obtain ⟨m9, z1, z2, z3⟩ := z; rw [show m9 = m by omega] at z3; omega)
    · show t_X d 84 22 lv [] g P
      refine t_0 qtd_22 rfl (ld_a l0) ?_
      refine t_0 qtd_23 rfl (cr_2_0 hJ.1) ?_
      refine t_0 qtd_26 rfl (ld_i l1) ?_
      refine t_0 qtd_27 rfl (pq_a3 hS hm (by omega)) ?_
      refine t_1 qtd_28 rfl (pb_goto (pc := 28) (by decide)) ?_
      show t_X d 84 32 lv [pvR (4 + 2 * m)] g P
      refine t_5 qtd_32 rfl rfl ?_
      exact h1 m hm rfl (by omega)
  · have hr2 : i < 0 ∨ 31 < i := by omega
    refine t_0 qtd_0 rfl (ld_i l1) ?_
    refine t_0 qtd_1 rfl rfl ?_
    refine t_0 qtd_2 rfl (pq_b (by decide)) ?_
    refine t_3 qtd_4 rfl (ar := ([oI (i), oI (0), oI (31)], [])) (pcal_s ⟨Or.inr rfl, rfl, Nat.le_of_ble_eq_true rfl⟩) ⟨by omega, Nat.le_of_ble_eq_true rfl, Nat.le_of_ble_eq_true rfl, rfl⟩ ?_
    refine ii_run ⟨by omega, by omega⟩ ⟨by omega, by omega⟩ ⟨by omega, by omega⟩ rfl rfl rfl (fun t1 => absurd t1 (by omega)) (fun t1 => ?_)
    show t_X d 84 7 lv [oI (0)] g P
    refine tz_eq qtd_7 (by decide) ⟨by omega, by omega⟩ (fun c2 => ?_) (fun c2 => absurd c2 (by omega))
    show t_X d 84 31 lv [] g P
    refine t_0 qtd_31 rfl rfl ?_
    refine t_5 qtd_32 rfl rfl ?_
    exact h0 (fun z => by obtain ⟨m9, z1, z2, z3⟩ := z; omega)
/-- how many are told -/
def ctl (f : Nat → Int) : Nat → Int
  | 0 => 0
  | n + 1 => ctl f n + f n
theorem ctl_b {f : Nat → Int} : ∀ {n : Nat}, (∀ j, j < n → 0 ≤ f j ∧ f j ≤ 1) → 0 ≤ ctl f n ∧ ctl f n ≤ n
  | 0, _ => ⟨Int.le_refl _, Int.le_refl _⟩
  | n + 1, h => by
    have h1 := ctl_b (f := f) (n := n) (fun j hj => h j (by omega))
    have h2 := h n (by omega)
    show 0 ≤ ctl f n + f n ∧ ctl f n + f n ≤ ((n + 1 : Nat) : Int)
    omega
set_option maxHeartbeats 1000000 in
theorem tc_loop {d : Nat} {g : pH} (hG : g_I eG g) (hS : rS g) {P : Option pv × pH → Prop} (hP : P (some (oI (ctl (fun j => cF g (4 + 2 * j) 2) 32)), g)) : ∀ (n m : Nat) (lv : List (Nat × pv)), 32 - m ≤ n → m ≤ 32 → px_lg lv 0 = some (pvR 2) → px_lg lv 1 = some (oI (ctl (fun j => cF g (4 + 2 * j) 2) m)) → px_lg lv 2 = some (oI (m : Int)) → t_X d 83 4 lv [] g P := by
  have hJ : J_ 0 g g := J_rf hG
  have hb : ∀ m, m ≤ 32 → 0 ≤ ctl (fun j => cF g (4 + 2 * j) 2) m ∧ ctl (fun j => cF g (4 + 2 * j) 2) m ≤ 32 := fun m hm => by
    have := ctl_b (f := fun j => cF g (4 + 2 * j) 2) (n := m) (fun j hj => cs4_2 (by omega) hG)
    omega
  intro n
  induction n with
  | zero =>
    intro m lv hn hm l0 l1 l2
    have hb1 := hb m hm
    have he : m = 32 := by omega
    subst he
    refine t_0 qtc_4 rfl (ld_i l2) ?_
    refine t_0 qtc_5 rfl (pq_b (by decide)) ?_
    refine tb_ge qtc_7 (by decide) ⟨by omega, by omega⟩ ⟨by omega, by omega⟩ (fun c1 => ?_) (fun c1 => absurd c1 (by omega))
    show t_X d 83 36 lv [] g P
    refine t_0 qtc_36 rfl (ld_i l1) ?_
    refine t_5 qtc_37 rfl rfl ?_
    exact hP
  | succ n ih =>
    intro m lv hn hm2 l0 l1 l2
    have hb1 := hb m hm2
    by_cases hm : m < 32
    · have hc := cs4_2 hm hG
      refine t_0 qtc_4 rfl (ld_i l2) ?_
      refine t_0 qtc_5 rfl (pq_b (by decide)) ?_
      refine tb_ge qtc_7 (by decide) ⟨by omega, by omega⟩ ⟨by omega, by omega⟩ (fun c1 => absurd c1 (by omega)) (fun c1 => ?_)
      show t_X d 83 10 lv [] g P
      refine t_0 qtc_10 rfl (ld_i l1) ?_
      refine t_0 qtc_11 rfl (ld_a l0) ?_
      refine t_0 qtc_12 rfl (cr_2_0 hJ.1) ?_
      refine t_0 qtc_15 rfl (ld_i l2) ?_
      refine t_0 qtc_16 rfl (pq_a3 hS hm (by omega)) ?_
      have r2 := cs4_2 hm hJ.1
      refine t_0 qtc_17 rfl (pq_cz (y := 2) (el_s4 hm) rfl) ?_
      refine tz_eq qtc_20 (by decide) ⟨by omega, by omega⟩ (fun c3 => ?_) (fun c3 => ?_)
      · show t_X d 83 27 lv [oI (ctl (fun j => cF g (4 + 2 * j) 2) m)] g P
        refine t_0 qtc_27 rfl rfl ?_
        refine t_0 qtc_28 rfl pq_add ?_
        refine t_2 qtc_29 rfl (w := (px_s1 lv 1 (oI ((ctl (fun j => cF g (4 + 2 * j) 2) m) + 0)), [])) rfl ?_
        replace l0 : px_lg (px_s1 lv 1 (oI ((ctl (fun j => cF g (4 + 2 * j) 2) m) + 0))) 0 = some (pvR 2) := s1_ne (by decide) (fun _ => rfl) l0
        replace l2 : px_lg (px_s1 lv 1 (oI ((ctl (fun j => cF g (4 + 2 * j) 2) m) + 0))) 2 = some (oI ((m : Int))) := s1_ne (by decide) (fun _ => rfl) l2
        have l1 : px_lg (px_s1 lv 1 (oI ((ctl (fun j => cF g (4 + 2 * j) 2) m) + 0))) 1 = some (oI ((ctl (fun j => cF g (4 + 2 * j) 2) m) + 0)) := s1_eq
        generalize px_s1 lv 1 (oI ((ctl (fun j => cF g (4 + 2 * j) 2) m) + 0)) = lv4 at l0 l2 l1 ⊢
        show t_X d 83 30 lv4 [] g P
        refine t_2 qtc_30 rfl (w := (px_s1 lv4 2 (oI ((m : Int) + 1)), [])) (pq_inc l2 (by decide)) ?_
        replace l0 : px_lg (px_s1 lv4 2 (oI ((m : Int) + 1))) 0 = some (pvR 2) := s1_ne (by decide) (fun _ => rfl) l0
        replace l1 : px_lg (px_s1 lv4 2 (oI ((m : Int) + 1))) 1 = some (oI ((ctl (fun j => cF g (4 + 2 * j) 2) m) + 0)) := s1_ne (by decide) (fun _ => rfl) l1
        have l2 : px_lg (px_s1 lv4 2 (oI ((m : Int) + 1))) 2 = some (oI ((m : Int) + 1)) := s1_eq
        generalize px_s1 lv4 2 (oI ((m : Int) + 1)) = lv5 at l0 l1 l2 ⊢
        show t_X d 83 33 lv5 [] g P
        refine t_1 qtc_33 rfl (pb_goto (pc := 33) (by decide)) ?_
        show t_X d 83 4 lv5 [] g P
        exact ih (m + 1) _ (by omega) (by omega) l0 (by rw [l1]; exact congrArg (fun u => some (oI u)) (by show _ = ctl _ m + cF g (4 + 2 * m) 2; omega)) l2
      · show t_X d 83 23 lv [oI (ctl (fun j => cF g (4 + 2 * j) 2) m)] g P
        refine t_0 qtc_23 rfl rfl ?_
        refine t_1 qtc_24 rfl (pb_goto (pc := 24) (by decide)) ?_
        show t_X d 83 28 lv [oI (1), oI (ctl (fun j => cF g (4 + 2 * j) 2) m)] g P
        refine t_0 qtc_28 rfl pq_add ?_
        refine t_2 qtc_29 rfl (w := (px_s1 lv 1 (oI ((ctl (fun j => cF g (4 + 2 * j) 2) m) + 1)), [])) rfl ?_
        replace l0 : px_lg (px_s1 lv 1 (oI ((ctl (fun j => cF g (4 + 2 * j) 2) m) + 1))) 0 = some (pvR 2) := s1_ne (by decide) (fun _ => rfl) l0
        replace l2 : px_lg (px_s1 lv 1 (oI ((ctl (fun j => cF g (4 + 2 * j) 2) m) + 1))) 2 = some (oI ((m : Int))) := s1_ne (by decide) (fun _ => rfl) l2
        have l1 : px_lg (px_s1 lv 1 (oI ((ctl (fun j => cF g (4 + 2 * j) 2) m) + 1))) 1 = some (oI ((ctl (fun j => cF g (4 + 2 * j) 2) m) + 1)) := s1_eq
        generalize px_s1 lv 1 (oI ((ctl (fun j => cF g (4 + 2 * j) 2) m) + 1)) = lv6 at l0 l2 l1 ⊢
        show t_X d 83 30 lv6 [] g P
        refine t_2 qtc_30 rfl (w := (px_s1 lv6 2 (oI ((m : Int) + 1)), [])) (pq_inc l2 (by decide)) ?_
        replace l0 : px_lg (px_s1 lv6 2 (oI ((m : Int) + 1))) 0 = some (pvR 2) := s1_ne (by decide) (fun _ => rfl) l0
        replace l1 : px_lg (px_s1 lv6 2 (oI ((m : Int) + 1))) 1 = some (oI ((ctl (fun j => cF g (4 + 2 * j) 2) m) + 1)) := s1_ne (by decide) (fun _ => rfl) l1
        have l2 : px_lg (px_s1 lv6 2 (oI ((m : Int) + 1))) 2 = some (oI ((m : Int) + 1)) := s1_eq
        generalize px_s1 lv6 2 (oI ((m : Int) + 1)) = lv7 at l0 l1 l2 ⊢
        show t_X d 83 33 lv7 [] g P
        refine t_1 qtc_33 rfl (pb_goto (pc := 33) (by decide)) ?_
        show t_X d 83 4 lv7 [] g P
        exact ih (m + 1) _ (by omega) (by omega) l0 (by rw [l1]; exact congrArg (fun u => some (oI u)) (by show _ = ctl _ m + cF g (4 + 2 * m) 2; omega)) l2
    · have he : m = 32 := by omega
      subst he
      refine t_0 qtc_4 rfl (ld_i l2) ?_
      refine t_0 qtc_5 rfl (pq_b (by decide)) ?_
      refine tb_ge qtc_7 (by decide) ⟨by omega, by omega⟩ ⟨by omega, by omega⟩ (fun c1 => ?_) (fun c1 => absurd c1 (by omega))
      show t_X d 83 36 lv [] g P
      refine t_0 qtc_36 rfl (ld_i l1) ?_
      refine t_5 qtc_37 rfl rfl ?_
      exact hP
theorem tc_run {d : Nat} {g : pH} (hG : g_I eG g) (hS : rS g) {P : Option pv × pH → Prop} (hP : P (some (oI (ctl (fun j => cF g (4 + 2 * j) 2) 32)), g)) {lv : List (Nat × pv)} (l0 : px_lg lv 0 = some (pvR 2)) : t_X d 83 0 lv [] g P := by
  have hJ : J_ 0 g g := J_rf hG
  refine t_0 qtc_0 rfl rfl ?_
  refine t_2 qtc_1 rfl (w := (px_s1 lv 1 (oI (0)), [])) rfl ?_
  replace l0 : px_lg (px_s1 lv 1 (oI (0))) 0 = some (pvR 2) := s1_ne (by decide) (fun _ => rfl) l0
  have l1 : px_lg (px_s1 lv 1 (oI (0))) 1 = some (oI (0)) := s1_eq
  generalize px_s1 lv 1 (oI (0)) = lv1 at l0 l1 ⊢
  show t_X d 83 2 lv1 [] g P
  refine t_0 qtc_2 rfl rfl ?_
  refine t_2 qtc_3 rfl (w := (px_s1 lv1 2 (oI (0)), [])) rfl ?_
  replace l0 : px_lg (px_s1 lv1 2 (oI (0))) 0 = some (pvR 2) := s1_ne (by decide) (fun _ => rfl) l0
  replace l1 : px_lg (px_s1 lv1 2 (oI (0))) 1 = some (oI (0)) := s1_ne (by decide) (fun _ => rfl) l1
  have l2 : px_lg (px_s1 lv1 2 (oI (0))) 2 = some (oI (0)) := s1_eq
  generalize px_s1 lv1 2 (oI (0)) = lv2 at l0 l1 l2 ⊢
  show t_X d 83 4 lv2 [] g P
  exact tc_loop hG hS hP 32 0 _ (by omega) (by omega) l0 l1 l2
