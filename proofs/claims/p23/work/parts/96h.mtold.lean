/-! the tie: told slides of the reference (printed by wip/e2/t3.py) -/
theorem qbi_0 : xe_look (xc 171) 0 = some (.iconst 0, 1, 0, 0, 0) := by decide +kernel
theorem qbi_1 : xe_look (xc 171) 1 = some (.istore_n 1, 1, 0, 0, 0) := by decide +kernel
theorem qbi_2 : xe_look (xc 171) 2 = some (.iconst 0, 1, 0, 0, 0) := by decide +kernel
theorem qbi_3 : xe_look (xc 171) 3 = some (.istore_n 2, 1, 0, 0, 0) := by decide +kernel
theorem qbi_4 : xe_look (xc 171) 4 = some (.iload_n 2, 1, 0, 0, 0) := by decide +kernel
theorem qbi_5 : xe_look (xc 171) 5 = some (.bipush 32, 2, 0, 0, 0) := by decide +kernel
theorem qbi_7 : xe_look (xc 171) 7 = some (.if_icmp .ge 17, 3, 0, 0, 0) := by decide +kernel
theorem qbi_10 : xe_look (xc 171) 10 = some (.iload_n 1, 1, 0, 0, 0) := by decide +kernel
theorem qbi_11 : xe_look (xc 171) 11 = some (.iload_n 0, 1, 0, 0, 0) := by decide +kernel
theorem qbi_12 : xe_look (xc 171) 12 = some (.iload_n 2, 1, 0, 0, 0) := by decide +kernel
theorem qbi_13 : xe_look (xc 171) 13 = some (.ishr, 1, 0, 0, 0) := by decide +kernel
theorem qbi_14 : xe_look (xc 171) 14 = some (.iconst 1, 1, 0, 0, 0) := by decide +kernel
theorem qbi_15 : xe_look (xc 171) 15 = some (.iand, 1, 0, 0, 0) := by decide +kernel
theorem qbi_16 : xe_look (xc 171) 16 = some (.iadd, 1, 0, 0, 0) := by decide +kernel
theorem qbi_17 : xe_look (xc 171) 17 = some (.istore_n 1, 1, 0, 0, 0) := by decide +kernel
theorem qbi_18 : xe_look (xc 171) 18 = some (.iinc 2 1, 3, 0, 0, 0) := by decide +kernel
theorem qbi_21 : xe_look (xc 171) 21 = some (.goto (-17), 3, 0, 0, 0) := by decide +kernel
theorem qbi_24 : xe_look (xc 171) 24 = some (.iload_n 1, 1, 0, 0, 0) := by decide +kernel
theorem qbi_25 : xe_look (xc 171) 25 = some (.ireturn, 1, 0, 0, 0) := by decide +kernel
theorem qit_0 : xe_look (xc 205) 0 = some (.iload_n 1, 1, 0, 0, 0) := by decide +kernel
theorem qit_1 : xe_look (xc 205) 1 = some (.ifCond .lt 24, 3, 0, 0, 0) := by decide +kernel
theorem qit_4 : xe_look (xc 205) 4 = some (.iload_n 1, 1, 0, 0, 0) := by decide +kernel
theorem qit_5 : xe_look (xc 205) 5 = some (.bipush 32, 2, 0, 0, 0) := by decide +kernel
theorem qit_7 : xe_look (xc 205) 7 = some (.if_icmp .ge 18, 3, 0, 0, 0) := by decide +kernel
theorem qit_10 : xe_look (xc 205) 10 = some (.aload_n 0, 1, 0, 0, 0) := by decide +kernel
theorem qit_11 : xe_look (xc 205) 11 = some (.getfield 183, 3, 12, 0, 1158) := by decide +kernel
theorem qit_14 : xe_look (xc 205) 14 = some (.iload_n 1, 1, 0, 0, 0) := by decide +kernel
theorem qit_15 : xe_look (xc 205) 15 = some (.invokestatic 187, 3, 0, 196, 1121) := by decide +kernel
theorem qit_18 : xe_look (xc 205) 18 = some (.ifCond .eq 7, 3, 0, 0, 0) := by decide +kernel
theorem qit_21 : xe_look (xc 205) 21 = some (.iconst 1, 1, 0, 0, 0) := by decide +kernel
theorem qit_22 : xe_look (xc 205) 22 = some (.goto 4, 3, 0, 0, 0) := by decide +kernel
theorem qit_25 : xe_look (xc 205) 25 = some (.iconst 0, 1, 0, 0, 0) := by decide +kernel
theorem qit_26 : xe_look (xc 205) 26 = some (.ireturn, 1, 0, 0, 0) := by decide +kernel
def bM (g : pH) (m : Nat) : Prop := (g.1 196 0).toBitVec.getLsbD m = true
def toM (g : pH) (i : Int) : Prop := ∃ m : Nat, m < 32 ∧ i = m ∧ bM g m
theorem bM_has {g : pH} {m : Nat} (hm : m < 32) : (Int32.ofInt (fF g 0) >>> (Int32.ofInt (m : Int) &&& 31)) &&& Int32.ofInt 1 = Int32.ofInt 1 ↔ bM g m := by
  rw [show Int32.ofInt (fF g 0) = g.1 196 0 from Int32.ofInt_toInt _, ← nI_o]
  exact bt_has hm
theorem it_run {d : Nat} (hd : 1 ≤ d) {g : pH} {i : Int} (hi : -2147483648 ≤ i ∧ i ≤ 2147483647) {P : Option pv × pH → Prop} {lv : List (Nat × pv)} (l0 : px_lg lv 0 = some (pvR 196)) (l1 : px_lg lv 1 = some (oI i)) (h1 : ∀ m : Nat, m < 32 → i = m → bM g m → P (some (oI 1), g)) (h0 : ¬ toM g i → P (some (oI 0), g)) : t_X d 205 0 lv [] g P := by
  by_cases hr : 0 ≤ i ∧ i ≤ 31
  · obtain ⟨m, rfl⟩ : ∃ m : Nat, i = m := ⟨i.toNat, by omega⟩
    have hm : m < 32 := by omega
    refine t_0 qit_0 rfl (ld_i l1) ?_
    refine tz_lt qit_1 (by decide) ⟨by omega, by omega⟩ (fun c1 => absurd c1 (by omega)) (fun c1 => ?_)
    show t_X d 205 4 lv [] g P
    refine t_0 qit_4 rfl (ld_i l1) ?_
    refine t_0 qit_5 rfl (pq_b (by decide)) ?_
    refine tb_ge qit_7 (by decide) ⟨by omega, by omega⟩ ⟨by omega, by omega⟩ (fun c2 => absurd c2 (by omega)) (fun c2 => ?_)
    show t_X d 205 10 lv [] g P
    refine t_0 qit_10 rfl (ld_a l0) ?_
    have r3 := fF_b g 0
    refine t_0 qit_11 rfl (pq_gf (y := 0) rfl) ?_
    refine t_0 qit_14 rfl (ld_i l1) ?_
    refine t_3 qit_15 rfl (ar := ([oI (fF g 0), oI ((m : Int))], [])) (pcal_s ⟨Or.inl rfl, rfl, Nat.le_of_ble_eq_true rfl⟩) ⟨by omega, Nat.le_of_ble_eq_true rfl, Nat.le_of_ble_eq_true rfl, rfl⟩ ?_
    refine has_run (fun t4 => ?_) (fun t4 => ?_)
    · have t2 := (bM_has hm).mp t4
      show t_X d 205 18 lv [oI (1)] g P
      refine tz_eq qit_18 (by decide) ⟨by omega, by omega⟩ (fun c5 => absurd c5 (by omega)) (fun c5 => ?_)
      show t_X d 205 21 lv [] g P
      refine t_0 qit_21 rfl rfl ?_
      refine t_1 qit_22 rfl (pb_goto (pc := 22) (by decide)) ?_
      show t_X d 205 26 lv [oI (1)] g P
      refine t_5 qit_26 rfl rfl ?_
      exact h1 m hm rfl t2
    · have t2 : ¬ bM g m := fun z => t4 ((bM_has hm).mpr z)
      show t_X d 205 18 lv [oI (0)] g P
      refine tz_eq qit_18 (by decide) ⟨by omega, by omega⟩ (fun c6 => ?_) (fun c6 => absurd c6 (by omega))
      show t_X d 205 25 lv [] g P
      refine t_0 qit_25 rfl rfl ?_
      refine t_5 qit_26 rfl rfl ?_
      exact h0 (fun z => by obtain ⟨m9, z1, z2, z3⟩ := z; rw [show m9 = m by omega] at z3; exact t2 z3)
  by_cases hr1 : i < 0
  · skip
    refine t_0 qit_0 rfl (ld_i l1) ?_
    refine tz_lt qit_1 (by decide) ⟨by omega, by omega⟩ (fun c1 => ?_) (fun c1 => absurd c1 (by omega))
    show t_X d 205 25 lv [] g P
    refine t_0 qit_25 rfl rfl ?_
    refine t_5 qit_26 rfl rfl ?_
    exact h0 (fun z => by obtain ⟨m9, z1, z2, z3⟩ := z; omega)
  · have hr2 : 31 < i := by omega
    refine t_0 qit_0 rfl (ld_i l1) ?_
    refine tz_lt qit_1 (by decide) ⟨by omega, by omega⟩ (fun c1 => absurd c1 (by omega)) (fun c1 => ?_)
    show t_X d 205 4 lv [] g P
    refine t_0 qit_4 rfl (ld_i l1) ?_
    refine t_0 qit_5 rfl (pq_b (by decide)) ?_
    refine tb_ge qit_7 (by decide) ⟨by omega, by omega⟩ ⟨by omega, by omega⟩ (fun c2 => ?_) (fun c2 => absurd c2 (by omega))
    show t_X d 205 25 lv [] g P
    refine t_0 qit_25 rfl rfl ?_
    refine t_5 qit_26 rfl rfl ?_
    exact h0 (fun z => by obtain ⟨m9, z1, z2, z3⟩ := z; omega)
def cbr (b : Int32) : Nat → Int32
  | 0 => Int32.ofInt 0
  | n + 1 => cbr b n + (b >>> (Int32.ofInt (n : Int) &&& 31) &&& Int32.ofInt 1)
def bz (b : Int32) (j : Nat) : Int := if b.toBitVec.getLsbD j = true then 1 else 0
theorem bz_at {b : Int32} {j : Nat} (h : j < 32) : b >>> (Int32.ofInt (j : Int) &&& 31) &&& Int32.ofInt 1 = Int32.ofInt (bz b j) := by
  rw [← nI_o, bt_and h, ← Int32.toBitVec_inj, Int32.toBitVec_and, Int32.toBitVec_shiftRight]
  have e1 : (Int32.ofInt 1).toBitVec = 1#32 := by decide
  rw [e1, BitVec.and_one_eq_setWidth_ofBool_getLsbD, BitVec.sshiftRight', BitVec.getLsbD_sshiftRight]
  have e2 := bt_mod h
  rw [e2, Nat.add_zero, if_pos h, show (!decide (32 ≤ 0)) = true from rfl, Bool.true_and]
  unfold bz
  cases b.toBitVec.getLsbD j <;> decide
theorem cbr_eq {b : Int32} : ∀ {n : Nat}, n ≤ 32 → cbr b n = Int32.ofInt (ctl (bz b) n)
  | 0, _ => rfl
  | n + 1, h => by
    show cbr b n + _ = Int32.ofInt (ctl (bz b) n + bz b n)
    rw [cbr_eq (n := n) (by omega), bz_at (by omega), Int32.ofInt_add]
theorem bi_loop {d : Nat} {g : pH} {b : Int32} {P : Option pv × pH → Prop} (hP : P (some (.inl (cbr b 32)), g)) : ∀ (n m : Nat) (lv : List (Nat × pv)), 32 - m ≤ n → m ≤ 32 → px_lg lv 0 = some (.inl b) → px_lg lv 1 = some (.inl (cbr b m)) → px_lg lv 2 = some (oI (m : Int)) → t_X d 171 4 lv [] g P := by
  intro n
  induction n with
  | zero =>
    intro m lv hn hm l0 l1 l2
    have he : m = 32 := by omega
    subst he
    refine t_0 qbi_4 rfl (ld_i l2) ?_
    refine t_0 qbi_5 rfl (pq_b (by decide)) ?_
    refine tb_ge qbi_7 (by decide) ⟨by omega, by omega⟩ ⟨by omega, by omega⟩ (fun c1 => ?_) (fun c1 => absurd c1 (by omega))
    show t_X d 171 24 lv [] g P
    refine t_0 qbi_24 rfl (ld_i l1) ?_
    refine t_5 qbi_25 rfl rfl ?_
    exact hP
  | succ n ih =>
    intro m lv hn hm2 l0 l1 l2
    by_cases hm : m < 32
    · skip
      refine t_0 qbi_4 rfl (ld_i l2) ?_
      refine t_0 qbi_5 rfl (pq_b (by decide)) ?_
      refine tb_ge qbi_7 (by decide) ⟨by omega, by omega⟩ ⟨by omega, by omega⟩ (fun c1 => absurd c1 (by omega)) (fun c1 => ?_)
      show t_X d 171 10 lv [] g P
      refine t_0 qbi_10 rfl (ld_i l1) ?_
      refine t_0 qbi_11 rfl (ld_i l0) ?_
      refine t_0 qbi_12 rfl (ld_i l2) ?_
      refine t_0 qbi_13 rfl rfl ?_
      refine t_0 qbi_14 rfl rfl ?_
      refine t_0 qbi_15 rfl rfl ?_
      refine t_0 qbi_16 rfl rfl ?_
      refine t_2 qbi_17 rfl (w := (px_s1 lv 1 (.inl ((cbr b m) + (((b) >>> ((Int32.ofInt ((m : Int))) &&& 31)) &&& (Int32.ofInt (1))))), [])) rfl ?_
      replace l0 : px_lg (px_s1 lv 1 (.inl ((cbr b m) + (((b) >>> ((Int32.ofInt ((m : Int))) &&& 31)) &&& (Int32.ofInt (1)))))) 0 = some (.inl (b)) := s1_ne (by decide) (fun _ => rfl) l0
      replace l2 : px_lg (px_s1 lv 1 (.inl ((cbr b m) + (((b) >>> ((Int32.ofInt ((m : Int))) &&& 31)) &&& (Int32.ofInt (1)))))) 2 = some (oI ((m : Int))) := s1_ne (by decide) (fun _ => rfl) l2
      have l1 : px_lg (px_s1 lv 1 (.inl ((cbr b m) + (((b) >>> ((Int32.ofInt ((m : Int))) &&& 31)) &&& (Int32.ofInt (1)))))) 1 = some (.inl ((cbr b m) + (((b) >>> ((Int32.ofInt ((m : Int))) &&& 31)) &&& (Int32.ofInt (1))))) := s1_eq
      generalize px_s1 lv 1 (.inl ((cbr b m) + (((b) >>> ((Int32.ofInt ((m : Int))) &&& 31)) &&& (Int32.ofInt (1))))) = lv2 at l0 l2 l1 ⊢
      show t_X d 171 18 lv2 [] g P
      refine t_2 qbi_18 rfl (w := (px_s1 lv2 2 (oI ((m : Int) + 1)), [])) (pq_inc l2 (by decide)) ?_
      replace l0 : px_lg (px_s1 lv2 2 (oI ((m : Int) + 1))) 0 = some (.inl (b)) := s1_ne (by decide) (fun _ => rfl) l0
      replace l1 : px_lg (px_s1 lv2 2 (oI ((m : Int) + 1))) 1 = some (.inl ((cbr b m) + (((b) >>> ((Int32.ofInt ((m : Int))) &&& 31)) &&& (Int32.ofInt (1))))) := s1_ne (by decide) (fun _ => rfl) l1
      have l2 : px_lg (px_s1 lv2 2 (oI ((m : Int) + 1))) 2 = some (oI ((m : Int) + 1)) := s1_eq
      generalize px_s1 lv2 2 (oI ((m : Int) + 1)) = lv3 at l0 l1 l2 ⊢
      show t_X d 171 21 lv3 [] g P
      refine t_1 qbi_21 rfl (pb_goto (pc := 21) (by decide)) ?_
      show t_X d 171 4 lv3 [] g P
      exact ih (m + 1) _ (by omega) (by omega) l0 l1 l2
    · have he : m = 32 := by omega
      subst he
      refine t_0 qbi_4 rfl (ld_i l2) ?_
      refine t_0 qbi_5 rfl (pq_b (by decide)) ?_
      refine tb_ge qbi_7 (by decide) ⟨by omega, by omega⟩ ⟨by omega, by omega⟩ (fun c1 => ?_) (fun c1 => absurd c1 (by omega))
      show t_X d 171 24 lv [] g P
      refine t_0 qbi_24 rfl (ld_i l1) ?_
      refine t_5 qbi_25 rfl rfl ?_
      exact hP
theorem bi_run {d : Nat} {g : pH} {b : Int32} {P : Option pv × pH → Prop} (hP : P (some (oI (ctl (bz b) 32)), g)) {lv : List (Nat × pv)} (l0 : px_lg lv 0 = some (.inl b)) : t_X d 171 0 lv [] g P := by
  have hP : P (some (.inl (cbr b 32)), g) := by
    rw [cbr_eq (by decide)]
    exact hP
  refine t_0 qbi_0 rfl rfl ?_
  refine t_2 qbi_1 rfl (w := (px_s1 lv 1 (oI (0)), [])) rfl ?_
  replace l0 : px_lg (px_s1 lv 1 (oI (0))) 0 = some (.inl (b)) := s1_ne (by decide) (fun _ => rfl) l0
  have l1 : px_lg (px_s1 lv 1 (oI (0))) 1 = some (oI (0)) := s1_eq
  generalize px_s1 lv 1 (oI (0)) = lv1 at l0 l1 ⊢
  show t_X d 171 2 lv1 [] g P
  refine t_0 qbi_2 rfl rfl ?_
  refine t_2 qbi_3 rfl (w := (px_s1 lv1 2 (oI (0)), [])) rfl ?_
  replace l0 : px_lg (px_s1 lv1 2 (oI (0))) 0 = some (.inl (b)) := s1_ne (by decide) (fun _ => rfl) l0
  replace l1 : px_lg (px_s1 lv1 2 (oI (0))) 1 = some (oI (0)) := s1_ne (by decide) (fun _ => rfl) l1
  have l2 : px_lg (px_s1 lv1 2 (oI (0))) 2 = some (oI (0)) := s1_eq
  generalize px_s1 lv1 2 (oI (0)) = lv2 at l0 l1 l2 ⊢
  show t_X d 171 4 lv2 [] g P
  exact bi_loop hP 32 0 _ (by omega) (by omega) l0 l1 l2
