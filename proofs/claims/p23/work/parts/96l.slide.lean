/-! the tie: slide of the class (printed by wip/e2/t5.py) -/
theorem qyp9_0 : xe_look (xc 152) 0 = some (.iconst 0, 1, 0, 0, 0) := by decide +kernel
theorem qyp9_1 : xe_look (xc 152) 1 = some (.istore_n 1, 1, 0, 0, 0) := by decide +kernel
theorem qyp9_2 : xe_look (xc 152) 2 = some (.iload_n 1, 1, 0, 0, 0) := by decide +kernel
theorem qyp9_3 : xe_look (xc 152) 3 = some (.bipush 25, 2, 0, 0, 0) := by decide +kernel
theorem qyp9_5 : xe_look (xc 152) 5 = some (.if_icmp .ge 38, 3, 0, 0, 0) := by decide +kernel
theorem qyp9_8 : xe_look (xc 152) 8 = some (.aload_n 0, 1, 0, 0, 0) := by decide +kernel
theorem qyp9_9 : xe_look (xc 152) 9 = some (.getfield 9, 3, 11, 0, 982) := by decide +kernel
theorem qyp9_12 : xe_look (xc 152) 12 = some (.iload_n 1, 1, 0, 0, 0) := by decide +kernel
theorem qyp9_13 : xe_look (xc 152) 13 = some (.iaload, 1, 0, 0, 0) := by decide +kernel
theorem qyp9_14 : xe_look (xc 152) 14 = some (.bipush 46, 2, 0, 0, 0) := by decide +kernel
theorem qyp9_16 : xe_look (xc 152) 16 = some (.if_icmp .eq 21, 3, 0, 0, 0) := by decide +kernel
theorem qyp9_19 : xe_look (xc 152) 19 = some (.aload_n 0, 1, 0, 0, 0) := by decide +kernel
theorem qyp9_20 : xe_look (xc 152) 20 = some (.getfield 9, 3, 11, 0, 982) := by decide +kernel
theorem qyp9_23 : xe_look (xc 152) 23 = some (.iload_n 1, 1, 0, 0, 0) := by decide +kernel
theorem qyp9_24 : xe_look (xc 152) 24 = some (.iaload, 1, 0, 0, 0) := by decide +kernel
theorem qyp9_25 : xe_look (xc 152) 25 = some (.bipush 97, 2, 0, 0, 0) := by decide +kernel
theorem qyp9_27 : xe_look (xc 152) 27 = some (.bipush 122, 2, 0, 0, 0) := by decide +kernel
theorem qyp9_29 : xe_look (xc 152) 29 = some (.invokestatic 89, 3, 0, 124, 994) := by decide +kernel
theorem qyp9_32 : xe_look (xc 152) 32 = some (.ifCond .ne 5, 3, 0, 0, 0) := by decide +kernel
theorem qyp9_35 : xe_look (xc 152) 35 = some (.iconst 0, 1, 0, 0, 0) := by decide +kernel
theorem qyp9_36 : xe_look (xc 152) 36 = some (.ireturn, 1, 0, 0, 0) := by decide +kernel
theorem qyp9_37 : xe_look (xc 152) 37 = some (.iinc 1 1, 3, 0, 0, 0) := by decide +kernel
theorem qyp9_40 : xe_look (xc 152) 40 = some (.goto (-38), 3, 0, 0, 0) := by decide +kernel
theorem qyp9_43 : xe_look (xc 152) 43 = some (.iconst 1, 1, 0, 0, 0) := by decide +kernel
theorem qyp9_44 : xe_look (xc 152) 44 = some (.ireturn, 1, 0, 0, 0) := by decide +kernel
theorem qysl_0 : xe_look (xc 147) 0 = some (.iload_n 1, 1, 0, 0, 0) := by decide +kernel
theorem qysl_1 : xe_look (xc 147) 1 = some (.iconst 0, 1, 0, 0, 0) := by decide +kernel
theorem qysl_2 : xe_look (xc 147) 2 = some (.bipush 31, 2, 0, 0, 0) := by decide +kernel
theorem qysl_4 : xe_look (xc 147) 4 = some (.invokestatic 89, 3, 0, 124, 994) := by decide +kernel
theorem qysl_7 : xe_look (xc 147) 7 = some (.ifCond .eq 32, 3, 0, 0, 0) := by decide +kernel
theorem qysl_10 : xe_look (xc 147) 10 = some (.iload_n 2, 1, 0, 0, 0) := by decide +kernel
theorem qysl_11 : xe_look (xc 147) 11 = some (.iconst 0, 1, 0, 0, 0) := by decide +kernel
theorem qysl_12 : xe_look (xc 147) 12 = some (.iconst 3, 1, 0, 0, 0) := by decide +kernel
theorem qysl_13 : xe_look (xc 147) 13 = some (.invokestatic 89, 3, 0, 124, 994) := by decide +kernel
theorem qysl_16 : xe_look (xc 147) 16 = some (.ifCond .eq 23, 3, 0, 0, 0) := by decide +kernel
theorem qysl_19 : xe_look (xc 147) 19 = some (.iload_n 3, 1, 0, 0, 0) := by decide +kernel
theorem qysl_20 : xe_look (xc 147) 20 = some (.iconst 0, 1, 0, 0, 0) := by decide +kernel
theorem qysl_21 : xe_look (xc 147) 21 = some (.iconst 3, 1, 0, 0, 0) := by decide +kernel
theorem qysl_22 : xe_look (xc 147) 22 = some (.invokestatic 89, 3, 0, 124, 994) := by decide +kernel
theorem qysl_25 : xe_look (xc 147) 25 = some (.ifCond .eq 14, 3, 0, 0, 0) := by decide +kernel
theorem qysl_28 : xe_look (xc 147) 28 = some (.iload 4, 2, 0, 0, 0) := by decide +kernel
theorem qysl_30 : xe_look (xc 147) 30 = some (.iconst 0, 1, 0, 0, 0) := by decide +kernel
theorem qysl_31 : xe_look (xc 147) 31 = some (.bipush 99, 2, 0, 0, 0) := by decide +kernel
theorem qysl_33 : xe_look (xc 147) 33 = some (.invokestatic 89, 3, 0, 124, 994) := by decide +kernel
theorem qysl_36 : xe_look (xc 147) 36 = some (.ifCond .ne 5, 3, 0, 0, 0) := by decide +kernel
theorem qysl_41 : xe_look (xc 147) 41 = some (.aload_n 0, 1, 0, 0, 0) := by decide +kernel
theorem qysl_42 : xe_look (xc 147) 42 = some (.getfield 81, 3, 11, 1, 981) := by decide +kernel
theorem qysl_45 : xe_look (xc 147) 45 = some (.bipush 25, 2, 0, 0, 0) := by decide +kernel
theorem qysl_47 : xe_look (xc 147) 47 = some (.if_icmp .ge 5, 3, 0, 0, 0) := by decide +kernel
theorem qysl_52 : xe_look (xc 147) 52 = some (.aload_n 0, 1, 0, 0, 0) := by decide +kernel
theorem qysl_53 : xe_look (xc 147) 53 = some (.iconst 0, 1, 0, 0, 0) := by decide +kernel
theorem qysl_54 : xe_look (xc 147) 54 = some (.putfield 81, 3, 11, 1, 981) := by decide +kernel
theorem qysl_57 : xe_look (xc 147) 57 = some (.aload_n 0, 1, 0, 0, 0) := by decide +kernel
theorem qysl_58 : xe_look (xc 147) 58 = some (.invokevirtual 93, 3, 0, 152, 1095) := by decide +kernel
theorem qysl_61 : xe_look (xc 147) 61 = some (.ifCond .ne 5, 3, 0, 0, 0) := by decide +kernel
theorem qysl_64 : xe_look (xc 147) 64 = some (.iconst 0, 1, 0, 0, 0) := by decide +kernel
theorem qysl_65 : xe_look (xc 147) 65 = some (.ireturn, 1, 0, 0, 0) := by decide +kernel
theorem qysl_66 : xe_look (xc 147) 66 = some (.aload_n 0, 1, 0, 0, 0) := by decide +kernel
theorem qysl_67 : xe_look (xc 147) 67 = some (.getfield 16, 3, 11, 2, 983) := by decide +kernel
theorem qysl_70 : xe_look (xc 147) 70 = some (.getfield 97, 3, 8, 0, 1096) := by decide +kernel
theorem qysl_73 : xe_look (xc 147) 73 = some (.iload_n 1, 1, 0, 0, 0) := by decide +kernel
theorem qysl_74 : xe_look (xc 147) 74 = some (.aaload, 1, 0, 0, 0) := by decide +kernel
theorem qysl_75 : xe_look (xc 147) 75 = some (.aload_n 0, 1, 0, 0, 0) := by decide +kernel
theorem qysl_76 : xe_look (xc 147) 76 = some (.getfield 9, 3, 11, 0, 982) := by decide +kernel
theorem qysl_79 : xe_look (xc 147) 79 = some (.iload_n 2, 1, 0, 0, 0) := by decide +kernel
theorem qysl_80 : xe_look (xc 147) 80 = some (.iload_n 3, 1, 0, 0, 0) := by decide +kernel
theorem qysl_81 : xe_look (xc 147) 81 = some (.iload 4, 2, 0, 0, 0) := by decide +kernel
theorem qysl_83 : xe_look (xc 147) 83 = some (.invokevirtual 101, 3, 0, 78, 1097) := by decide +kernel
theorem qysl_86 : xe_look (xc 147) 86 = some (.iconst 1, 1, 0, 0, 0) := by decide +kernel
theorem qysl_87 : xe_look (xc 147) 87 = some (.ireturn, 1, 0, 0, 0) := by decide +kernel
theorem rS_2 {g g1 : pH} {f : Nat → Nat → Int32} (e : g1 = (f, g.2)) (h : rS g) : rS g1 := by
  rw [e]
  exact h
theorem rS_M {W : Nat} {g g1 : pH} (hM : f_M W g g1) (h3 : W.testBit (cn 3) = false ∧ W.testBit (cn 77) = false) (h : rS g) : rS g1 := fun j hj => by
  rw [(hM.2 3 h3.1).2.2, (hM.2 77 h3.2).2.2]
  exact h j hj
def picC (g : pH) : Prop := ∀ k, k < 25 → fA g 1 k = 46 ∨ (97 ≤ fA g 1 k ∧ fA g 1 k ≤ 122)
set_option maxHeartbeats 2000000 in
theorem tp_loop {d : Nat} (hd : 1 ≤ d) {g : pH} (hG : g_I eG g) {P : Option pv × pH → Prop} (hA : picC g → P (some (oI 1), g)) (hB : ¬ picC g → P (some (oI 0), g)) : ∀ (n m : Nat) (lv : List (Nat × pv)), 25 - m ≤ n → m ≤ 25 → (∀ k, k < m → fA g 1 k = 46 ∨ (97 ≤ fA g 1 k ∧ fA g 1 k ≤ 122)) → px_lg lv 0 = some (pvR 0) → px_lg lv 1 = some (oI (m : Int)) → t_X d 152 2 lv [] g P := by
  have hJ : J_ 0 g g := J_rf hG
  intro n
  induction n with
  | zero =>
    intro m lv hn hm hp l0 l1
    refine t_0 qyp9_2 rfl (ld_i l1) ?_
    refine t_0 qyp9_3 rfl (pq_b (by decide)) ?_
    refine tb_ge qyp9_5 (by decide) ⟨by omega, by omega⟩ ⟨by omega, by omega⟩ (fun c1 => ?_) (fun c1 => absurd c1 (by omega))
    show t_X d 152 43 lv [] g P
    refine t_0 qyp9_43 rfl rfl ?_
    refine t_5 qyp9_44 rfl rfl ?_
    exact hA (fun k hk => hp k (by omega))
  | succ n ih =>
    intro m lv hn hm2 hp l0 l1
    by_cases hm : m < 25
    · skip
      refine t_0 qyp9_2 rfl (ld_i l1) ?_
      refine t_0 qyp9_3 rfl (pq_b (by decide)) ?_
      refine tb_ge qyp9_5 (by decide) ⟨by omega, by omega⟩ ⟨by omega, by omega⟩ (fun c1 => absurd c1 (by omega)) (fun c1 => ?_)
      show t_X d 152 8 lv [] g P
      refine t_0 qyp9_8 rfl (ld_a l0) ?_
      refine t_0 qyp9_9 rfl (cr_0_0 hJ.1) ?_
      refine t_0 qyp9_12 rfl (ld_i l1) ?_
      refine t_0 qyp9_13 rfl (pq_ia el_1 rfl ⟨by omega, by omega⟩) ?_
      show t_X d 152 14 lv [oI (fA g 1 m)] g P
      have r2 := fA_b g 1 m
      refine t_0 qyp9_14 rfl (pq_b (by decide)) ?_
      refine tb_eq qyp9_16 (by decide) ⟨by omega, by omega⟩ ⟨by omega, by omega⟩ (fun c3 => ?_) (fun c3 => ?_)
      · show t_X d 152 37 lv [] g P
        refine t_2 qyp9_37 rfl (w := (px_s1 lv 1 (oI ((m : Int) + 1)), [])) (pq_inc l1 (by decide)) ?_
        replace l0 : px_lg (px_s1 lv 1 (oI ((m : Int) + 1))) 0 = some (pvR 0) := s1_ne (by decide) (fun _ => rfl) l0
        have l1 : px_lg (px_s1 lv 1 (oI ((m : Int) + 1))) 1 = some (oI ((m : Int) + 1)) := s1_eq
        generalize px_s1 lv 1 (oI ((m : Int) + 1)) = lv4 at l0 l1 ⊢
        show t_X d 152 40 lv4 [] g P
        refine t_1 qyp9_40 rfl (pb_goto (pc := 40) (by decide)) ?_
        show t_X d 152 2 lv4 [] g P
        exact ih (m + 1) _ (by omega) (by omega) (fun k hk => by rcases Nat.lt_or_ge k m with z | z; exact hp k z; rw [show k = m by omega]; omega) l0 l1
      · show t_X d 152 19 lv [] g P
        refine t_0 qyp9_19 rfl (ld_a l0) ?_
        refine t_0 qyp9_20 rfl (cr_0_0 hJ.1) ?_
        refine t_0 qyp9_23 rfl (ld_i l1) ?_
        refine t_0 qyp9_24 rfl (pq_ia el_1 rfl ⟨by omega, by omega⟩) ?_
        show t_X d 152 25 lv [oI (fA g 1 m)] g P
        have r5 := fA_b g 1 m
        refine t_0 qyp9_25 rfl (pq_b (by decide)) ?_
        refine t_0 qyp9_27 rfl (pq_b (by decide)) ?_
        refine t_3 qyp9_29 rfl (ar := ([oI (fA g 1 m), oI (97), oI (122)], [])) (pcal_s ⟨Or.inl rfl, rfl, Nat.le_of_ble_eq_true rfl⟩) ⟨by omega, Nat.le_of_ble_eq_true rfl, Nat.le_of_ble_eq_true rfl, rfl⟩ ?_
        refine ii_run ⟨by omega, by omega⟩ ⟨by omega, by omega⟩ ⟨by omega, by omega⟩ rfl rfl rfl (fun t6 => ?_) (fun t6 => ?_)
        · show t_X d 152 32 lv [oI (1)] g P
          refine tz_ne qyp9_32 (by decide) ⟨by omega, by omega⟩ (fun c7 => ?_) (fun c7 => absurd c7 (by omega))
          show t_X d 152 37 lv [] g P
          refine t_2 qyp9_37 rfl (w := (px_s1 lv 1 (oI ((m : Int) + 1)), [])) (pq_inc l1 (by decide)) ?_
          replace l0 : px_lg (px_s1 lv 1 (oI ((m : Int) + 1))) 0 = some (pvR 0) := s1_ne (by decide) (fun _ => rfl) l0
          have l1 : px_lg (px_s1 lv 1 (oI ((m : Int) + 1))) 1 = some (oI ((m : Int) + 1)) := s1_eq
          generalize px_s1 lv 1 (oI ((m : Int) + 1)) = lv8 at l0 l1 ⊢
          show t_X d 152 40 lv8 [] g P
          refine t_1 qyp9_40 rfl (pb_goto (pc := 40) (by decide)) ?_
          show t_X d 152 2 lv8 [] g P
          exact ih (m + 1) _ (by omega) (by omega) (fun k hk => by rcases Nat.lt_or_ge k m with z | z; exact hp k z; rw [show k = m by omega]; omega) l0 l1
        · show t_X d 152 32 lv [oI (0)] g P
          refine tz_ne qyp9_32 (by decide) ⟨by omega, by omega⟩ (fun c9 => absurd c9 (by omega)) (fun c9 => ?_)
          show t_X d 152 35 lv [] g P
          refine t_0 qyp9_35 rfl rfl ?_
          refine t_5 qyp9_36 rfl rfl ?_
          exact hB (fun z => by have z1 := z m (by omega); omega)
    · skip
      refine t_0 qyp9_2 rfl (ld_i l1) ?_
      refine t_0 qyp9_3 rfl (pq_b (by decide)) ?_
      refine tb_ge qyp9_5 (by decide) ⟨by omega, by omega⟩ ⟨by omega, by omega⟩ (fun c1 => ?_) (fun c1 => absurd c1 (by omega))
      show t_X d 152 43 lv [] g P
      refine t_0 qyp9_43 rfl rfl ?_
      refine t_5 qyp9_44 rfl rfl ?_
      exact hA (fun k hk => hp k (by omega))
theorem tp_run {d : Nat} (hd : 1 ≤ d) {g : pH} (hG : g_I eG g) {P : Option pv × pH → Prop} (hA : picC g → P (some (oI 1), g)) (hB : ¬ picC g → P (some (oI 0), g)) {lv : List (Nat × pv)} (l0 : px_lg lv 0 = some (pvR 0)) : t_X d 152 0 lv [] g P := by
  have hJ : J_ 0 g g := J_rf hG
  refine t_0 qyp9_0 rfl rfl ?_
  refine t_2 qyp9_1 rfl (w := (px_s1 lv 1 (oI (0)), [])) rfl ?_
  replace l0 : px_lg (px_s1 lv 1 (oI (0))) 0 = some (pvR 0) := s1_ne (by decide) (fun _ => rfl) l0
  have l1 : px_lg (px_s1 lv 1 (oI (0))) 1 = some (oI (0)) := s1_eq
  generalize px_s1 lv 1 (oI (0)) = lv1 at l0 l1 ⊢
  show t_X d 152 2 lv1 [] g P
  exact tp_loop hd hG hA hB 25 0 _ (by omega) (by omega) (fun k hk => absurd hk (by omega)) l0 l1
/-- the cells of a slide that telling it writes -/
def WT (m : Nat) : Nat := 2 ^ (cn (4 + 2 * m) + 2) + 2 ^ (cn (4 + 2 * m) + 3) + 2 ^ (cn (4 + 2 * m) + 4) + 2 ^ (cn (4 + 2 * m) + 5) + 2 ^ (cn (4 + 2 * m) + 6) + 2 ^ (cn (4 + 2 * m) + 7) + 2 ^ (cn (4 + 2 * m) + 8) + 2 ^ cn (5 + 2 * m)
def kT (m : Nat) : eK := (78, (3, [(0, 2, (0, 100000, [5 + 2 * m])), (1, 2, (0, 100000, [2])), (2, 0, (0, 3, [])), (3, 0, (0, 3, [])), (4, 0, (0, 99, []))], [(0, 1, 0, (0, 0, []))], []), (0, []), WT m, [(none, [(4 + 2 * m, 2, 0, (1, 1, []))], [])])
def cT (m : Nat) : List eCc := [(51, (3, [(0, 2, (0, 100000, [5 + 2 * m])), (5, 0, (0, 8, []))], [(0, 1, 0, (0, 0, [])), (4 + 2 * m, 2, 0, (1, 1, []))], []), (8, [(2, (-1))]))]
theorem eTl : (List.range 32).all (fun m => ex_mid eG eKT eDX 4000 (kT m) (cT m) 0) = true := by decide +kernel
theorem eTl_at {m : Nat} (h : m < 32) : ex_mid eG eKT eDX 4000 (kT m) (cT m) 0 = true := List.all_eq_true.mp eTl m (List.mem_range.mpr h)
theorem WT_k : ∀ m, m < 32 → WT m &&& kk_2.2.2.2.1 = WT m ∧ (WT m).testBit (cn 0 + 1) = false := by decide +kernel
theorem WT_n : ∀ m, m < 32 → ∀ j, j < 32 → j ≠ m → (WT m).testBit (cn (4 + 2 * j) + 2) = false := by decide +kernel
theorem Wsl_b : kk_2.2.2.2.1.testBit (cn 0 + 1) = true ∧ kk_2.2.2.2.1 &&& eDX = 0 ∧ kk_2.2.2.2.1.testBit (cn 3) = false ∧ kk_2.2.2.2.1.testBit (cn 77) = false := by decide +kernel
def kcsl_1 : eK := (147, (1, [(0, 2, (0, 100000, [1])), (1, 0, ((-2147483648), (-1), [])), (2, 0, ((-2147483648), 2147483647, [])), (3, 0, ((-2147483648), 2147483647, [])), (4, 0, ((-2147483648), 2147483647, []))], [], []), (0, []), 0, [(some (0, (0, 0, [])), [], [])])
theorem ecsl_1 : ex_mid eG eKT eDX 4000 kcsl_1 [] 0 = true := by decide +kernel
def kcsl_2 : eK := (147, (1, [(0, 2, (0, 100000, [1])), (1, 0, (32, 2147483647, [])), (2, 0, ((-2147483648), 2147483647, [])), (3, 0, ((-2147483648), 2147483647, [])), (4, 0, ((-2147483648), 2147483647, []))], [], []), (0, []), 0, [(some (0, (0, 0, [])), [], [])])
theorem ecsl_2 : ex_mid eG eKT eDX 4000 kcsl_2 [] 0 = true := by decide +kernel
def kcsl_3 : eK := (147, (1, [(0, 2, (0, 100000, [1])), (1, 0, ((-2147483648), 2147483647, [])), (2, 0, ((-2147483648), (-1), [])), (3, 0, ((-2147483648), 2147483647, [])), (4, 0, ((-2147483648), 2147483647, []))], [], []), (0, []), 0, [(some (0, (0, 0, [])), [], [])])
theorem ecsl_3 : ex_mid eG eKT eDX 4000 kcsl_3 [] 0 = true := by decide +kernel
def kcsl_4 : eK := (147, (1, [(0, 2, (0, 100000, [1])), (1, 0, ((-2147483648), 2147483647, [])), (2, 0, (4, 2147483647, [])), (3, 0, ((-2147483648), 2147483647, [])), (4, 0, ((-2147483648), 2147483647, []))], [], []), (0, []), 0, [(some (0, (0, 0, [])), [], [])])
theorem ecsl_4 : ex_mid eG eKT eDX 4000 kcsl_4 [] 0 = true := by decide +kernel
def kcsl_5 : eK := (147, (1, [(0, 2, (0, 100000, [1])), (1, 0, ((-2147483648), 2147483647, [])), (2, 0, ((-2147483648), 2147483647, [])), (3, 0, ((-2147483648), (-1), [])), (4, 0, ((-2147483648), 2147483647, []))], [], []), (0, []), 0, [(some (0, (0, 0, [])), [], [])])
theorem ecsl_5 : ex_mid eG eKT eDX 4000 kcsl_5 [] 0 = true := by decide +kernel
def kcsl_6 : eK := (147, (1, [(0, 2, (0, 100000, [1])), (1, 0, ((-2147483648), 2147483647, [])), (2, 0, ((-2147483648), 2147483647, [])), (3, 0, (4, 2147483647, [])), (4, 0, ((-2147483648), 2147483647, []))], [], []), (0, []), 0, [(some (0, (0, 0, [])), [], [])])
theorem ecsl_6 : ex_mid eG eKT eDX 4000 kcsl_6 [] 0 = true := by decide +kernel
def kcsl_7 : eK := (147, (1, [(0, 2, (0, 100000, [1])), (1, 0, ((-2147483648), 2147483647, [])), (2, 0, ((-2147483648), 2147483647, [])), (3, 0, ((-2147483648), 2147483647, [])), (4, 0, ((-2147483648), (-1), []))], [], []), (0, []), 0, [(some (0, (0, 0, [])), [], [])])
theorem ecsl_7 : ex_mid eG eKT eDX 4000 kcsl_7 [] 0 = true := by decide +kernel
def kcsl_8 : eK := (147, (1, [(0, 2, (0, 100000, [1])), (1, 0, ((-2147483648), 2147483647, [])), (2, 0, ((-2147483648), 2147483647, [])), (3, 0, ((-2147483648), 2147483647, [])), (4, 0, (100, 2147483647, []))], [], []), (0, []), 0, [(some (0, (0, 0, [])), [], [])])
theorem ecsl_8 : ex_mid eG eKT eDX 4000 kcsl_8 [] 0 = true := by decide +kernel
def kcsl_9 : eK := (147, (1, [(0, 2, (0, 100000, [1])), (1, 0, (0, 31, [])), (2, 0, (0, 3, [])), (3, 0, (0, 3, [])), (4, 0, (0, 99, []))], [(0, 1, 0, (0, 24, []))], []), (0, []), 0, [(some (0, (0, 0, [])), [], [])])
theorem ecsl_9 : ex_mid eG eKT eDX 4000 kcsl_9 [] 0 = true := by decide +kernel
theorem ok_t1 : ok_v (cv (pvR 1)) (0, 100000, [2]) := ⟨by decide, by decide, Or.inr (List.mem_singleton.mpr rfl)⟩
theorem pic_1 {g g1 : pH} {f : Nat → Nat → Int32} (e : g1 = (f, g.2)) (h : picC g) : picC g1 := by rw [e]; exact h
theorem pic_2 {g g1 : pH} {f : Nat → Nat → Int32} (e : g1 = (f, g.2)) (h : picC g1) : picC g := by rw [e] at h; exact h
set_option maxHeartbeats 4000000 in
theorem cs_run {d : Nat} (hd : 6 ≤ d) (hd2 : d ≤ 1000000) {g : pH} (hG : g_I eG g) (hx : xL g) (hS : rS g) {i a b c : Int} (hi : -2147483648 ≤ i ∧ i ≤ 2147483647) (ha : -2147483648 ≤ a ∧ a ≤ 2147483647) (hb9 : -2147483648 ≤ b ∧ b ≤ 2147483647) (hc : -2147483648 ≤ c ∧ c ≤ 2147483647) {P : Option pv × pH → Prop} (hA : ∀ m : Nat, m < 32 → i = m → (0 ≤ i ∧ i ≤ 31) ∧ (0 ≤ a ∧ a ≤ 3) ∧ (0 ≤ b ∧ b ≤ 3) ∧ (0 ≤ c ∧ c ≤ 99) ∧ 25 ≤ cF g 0 1 → picC g → ∀ g1 : pH, g_I eG g1 → xL g1 → f_M kk_2.2.2.2.1 g g1 → cF g1 0 1 = 0 → cF g1 (4 + 2 * m) 2 = 1 → (∀ j, j < 32 → j ≠ m → cF g1 (4 + 2 * j) 2 = cF g (4 + 2 * j) 2) → P (some (oI 1), g1)) (hB : (0 ≤ i ∧ i ≤ 31) ∧ (0 ≤ a ∧ a ≤ 3) ∧ (0 ≤ b ∧ b ≤ 3) ∧ (0 ≤ c ∧ c ≤ 99) ∧ 25 ≤ cF g 0 1 → ¬ picC g → ∀ g1 : pH, g_I eG g1 → xL g1 → f_M kk_2.2.2.2.1 g g1 → cF g1 0 1 = 0 → (∀ u v, ¬ (u = 0 ∧ v = 1) → cF g1 u v = cF g u v) → P (some (oI 0), g1)) (hR : ∀ g1 : pH, g_I eG g1 → xL g1 → f_M kk_2.2.2.2.1 g g1 → (∀ u v, cF g1 u v = cF g u v) → ¬ ((0 ≤ i ∧ i ≤ 31) ∧ (0 ≤ a ∧ a ≤ 3) ∧ (0 ≤ b ∧ b ≤ 3) ∧ (0 ≤ c ∧ c ≤ 99) ∧ 25 ≤ cF g 0 1) → P (some (oI 0), g1)) {lv : List (Nat × pv)} (l0 : px_lg lv 0 = some (pvR 0)) (l1 : px_lg lv 1 = some (oI i)) (l2 : px_lg lv 2 = some (oI a)) (l3 : px_lg lv 3 = some (oI b)) (l4 : px_lg lv 4 = some (oI c)) : t_X d 147 0 lv [] g P := by
  have hJ : J_ kk_2.2.2.2.1 g g := J_rf hG
  have w_0_1 := Wsl_b.1
  have hb := cb_0_1 hG
  by_cases a0 : i < 0
  · refine mid_L (k := kcsl_1) ecsl_1 hG hx (xs := [cv (pvR 0), cv (oI i), cv (oI a), cv (oI b), cv (oI c)]) (ys := []) ⟨by show 1 ≤ _; omega, ⟨⟨pvR 0, l0, rfl, rfl, ok_0⟩, ⟨oI i, l1, rfl, rfl, ok_oI (by omega) (by decide) (by decide)⟩, ⟨oI a, l2, rfl, rfl, ok_full32 _⟩, ⟨oI b, l3, rfl, rfl, ok_full32 _⟩, ⟨oI c, l4, rfl, rfl, ok_full32 _⟩, trivial⟩, trivial, fun c hc => absurd hc List.not_mem_nil⟩ (by omega) (fun o G1 X1 M1 P1 => ?_)
    obtain ⟨o1, o2⟩ := o
    obtain ⟨rfl, -⟩ := po_c P1
    exact hR _ G1 X1 (f_M_0 M1) (fun u v => cF_M0 M1 u v) (fun z => by omega)
  · skip
    by_cases a1 : 31 < i
    · refine mid_L (k := kcsl_2) ecsl_2 hG hx (xs := [cv (pvR 0), cv (oI i), cv (oI a), cv (oI b), cv (oI c)]) (ys := []) ⟨by show 1 ≤ _; omega, ⟨⟨pvR 0, l0, rfl, rfl, ok_0⟩, ⟨oI i, l1, rfl, rfl, ok_oI (by omega) (by decide) (by decide)⟩, ⟨oI a, l2, rfl, rfl, ok_full32 _⟩, ⟨oI b, l3, rfl, rfl, ok_full32 _⟩, ⟨oI c, l4, rfl, rfl, ok_full32 _⟩, trivial⟩, trivial, fun c hc => absurd hc List.not_mem_nil⟩ (by omega) (fun o G1 X1 M1 P1 => ?_)
      obtain ⟨o1, o2⟩ := o
      obtain ⟨rfl, -⟩ := po_c P1
      exact hR _ G1 X1 (f_M_0 M1) (fun u v => cF_M0 M1 u v) (fun z => by omega)
    · skip
      by_cases a2 : a < 0
      · refine mid_L (k := kcsl_3) ecsl_3 hG hx (xs := [cv (pvR 0), cv (oI i), cv (oI a), cv (oI b), cv (oI c)]) (ys := []) ⟨by show 1 ≤ _; omega, ⟨⟨pvR 0, l0, rfl, rfl, ok_0⟩, ⟨oI i, l1, rfl, rfl, ok_full32 _⟩, ⟨oI a, l2, rfl, rfl, ok_oI (by omega) (by decide) (by decide)⟩, ⟨oI b, l3, rfl, rfl, ok_full32 _⟩, ⟨oI c, l4, rfl, rfl, ok_full32 _⟩, trivial⟩, trivial, fun c hc => absurd hc List.not_mem_nil⟩ (by omega) (fun o G1 X1 M1 P1 => ?_)
        obtain ⟨o1, o2⟩ := o
        obtain ⟨rfl, -⟩ := po_c P1
        exact hR _ G1 X1 (f_M_0 M1) (fun u v => cF_M0 M1 u v) (fun z => by omega)
      · skip
        by_cases a3 : 3 < a
        · refine mid_L (k := kcsl_4) ecsl_4 hG hx (xs := [cv (pvR 0), cv (oI i), cv (oI a), cv (oI b), cv (oI c)]) (ys := []) ⟨by show 1 ≤ _; omega, ⟨⟨pvR 0, l0, rfl, rfl, ok_0⟩, ⟨oI i, l1, rfl, rfl, ok_full32 _⟩, ⟨oI a, l2, rfl, rfl, ok_oI (by omega) (by decide) (by decide)⟩, ⟨oI b, l3, rfl, rfl, ok_full32 _⟩, ⟨oI c, l4, rfl, rfl, ok_full32 _⟩, trivial⟩, trivial, fun c hc => absurd hc List.not_mem_nil⟩ (by omega) (fun o G1 X1 M1 P1 => ?_)
          obtain ⟨o1, o2⟩ := o
          obtain ⟨rfl, -⟩ := po_c P1
          exact hR _ G1 X1 (f_M_0 M1) (fun u v => cF_M0 M1 u v) (fun z => by omega)
        · skip
          by_cases a4 : b < 0
          · refine mid_L (k := kcsl_5) ecsl_5 hG hx (xs := [cv (pvR 0), cv (oI i), cv (oI a), cv (oI b), cv (oI c)]) (ys := []) ⟨by show 1 ≤ _; omega, ⟨⟨pvR 0, l0, rfl, rfl, ok_0⟩, ⟨oI i, l1, rfl, rfl, ok_full32 _⟩, ⟨oI a, l2, rfl, rfl, ok_full32 _⟩, ⟨oI b, l3, rfl, rfl, ok_oI (by omega) (by decide) (by decide)⟩, ⟨oI c, l4, rfl, rfl, ok_full32 _⟩, trivial⟩, trivial, fun c hc => absurd hc List.not_mem_nil⟩ (by omega) (fun o G1 X1 M1 P1 => ?_)
            obtain ⟨o1, o2⟩ := o
            obtain ⟨rfl, -⟩ := po_c P1
            exact hR _ G1 X1 (f_M_0 M1) (fun u v => cF_M0 M1 u v) (fun z => by omega)
          · skip
            by_cases a5 : 3 < b
            · refine mid_L (k := kcsl_6) ecsl_6 hG hx (xs := [cv (pvR 0), cv (oI i), cv (oI a), cv (oI b), cv (oI c)]) (ys := []) ⟨by show 1 ≤ _; omega, ⟨⟨pvR 0, l0, rfl, rfl, ok_0⟩, ⟨oI i, l1, rfl, rfl, ok_full32 _⟩, ⟨oI a, l2, rfl, rfl, ok_full32 _⟩, ⟨oI b, l3, rfl, rfl, ok_oI (by omega) (by decide) (by decide)⟩, ⟨oI c, l4, rfl, rfl, ok_full32 _⟩, trivial⟩, trivial, fun c hc => absurd hc List.not_mem_nil⟩ (by omega) (fun o G1 X1 M1 P1 => ?_)
              obtain ⟨o1, o2⟩ := o
              obtain ⟨rfl, -⟩ := po_c P1
              exact hR _ G1 X1 (f_M_0 M1) (fun u v => cF_M0 M1 u v) (fun z => by omega)
            · skip
              by_cases a6 : c < 0
              · refine mid_L (k := kcsl_7) ecsl_7 hG hx (xs := [cv (pvR 0), cv (oI i), cv (oI a), cv (oI b), cv (oI c)]) (ys := []) ⟨by show 1 ≤ _; omega, ⟨⟨pvR 0, l0, rfl, rfl, ok_0⟩, ⟨oI i, l1, rfl, rfl, ok_full32 _⟩, ⟨oI a, l2, rfl, rfl, ok_full32 _⟩, ⟨oI b, l3, rfl, rfl, ok_full32 _⟩, ⟨oI c, l4, rfl, rfl, ok_oI (by omega) (by decide) (by decide)⟩, trivial⟩, trivial, fun c hc => absurd hc List.not_mem_nil⟩ (by omega) (fun o G1 X1 M1 P1 => ?_)
                obtain ⟨o1, o2⟩ := o
                obtain ⟨rfl, -⟩ := po_c P1
                exact hR _ G1 X1 (f_M_0 M1) (fun u v => cF_M0 M1 u v) (fun z => by omega)
              · skip
                by_cases a7 : 99 < c
                · refine mid_L (k := kcsl_8) ecsl_8 hG hx (xs := [cv (pvR 0), cv (oI i), cv (oI a), cv (oI b), cv (oI c)]) (ys := []) ⟨by show 1 ≤ _; omega, ⟨⟨pvR 0, l0, rfl, rfl, ok_0⟩, ⟨oI i, l1, rfl, rfl, ok_full32 _⟩, ⟨oI a, l2, rfl, rfl, ok_full32 _⟩, ⟨oI b, l3, rfl, rfl, ok_full32 _⟩, ⟨oI c, l4, rfl, rfl, ok_oI (by omega) (by decide) (by decide)⟩, trivial⟩, trivial, fun c hc => absurd hc List.not_mem_nil⟩ (by omega) (fun o G1 X1 M1 P1 => ?_)
                  obtain ⟨o1, o2⟩ := o
                  obtain ⟨rfl, -⟩ := po_c P1
                  exact hR _ G1 X1 (f_M_0 M1) (fun u v => cF_M0 M1 u v) (fun z => by omega)
                · skip
                  by_cases a8 : cF g 0 1 < 25
                  · refine mid_L (k := kcsl_9) ecsl_9 hG hx (xs := [cv (pvR 0), cv (oI i), cv (oI a), cv (oI b), cv (oI c)]) (ys := [cF g 0 1]) ⟨by show 1 ≤ _; omega, ⟨⟨pvR 0, l0, rfl, rfl, ok_0⟩, ⟨oI i, l1, rfl, rfl, ok_oI (by omega) (by decide) (by decide)⟩, ⟨oI a, l2, rfl, rfl, ok_oI (by omega) (by decide) (by decide)⟩, ⟨oI b, l3, rfl, rfl, ok_oI (by omega) (by decide) (by decide)⟩, ⟨oI c, l4, rfl, rfl, ok_oI (by omega) (by decide) (by decide)⟩, trivial⟩, ⟨⟨.inl (g.1 0 1), hc_i er_0 (Nat.le_of_ble_eq_true rfl) rfl, rfl, rfl, ⟨hb.1, show cF g 0 1 ≤ 24 by omega, Or.inl rfl⟩⟩, trivial⟩, fun c hc => absurd hc List.not_mem_nil⟩ (by omega) (fun o G1 X1 M1 P1 => ?_)
                    obtain ⟨o1, o2⟩ := o
                    obtain ⟨rfl, -⟩ := po_c P1
                    exact hR _ G1 X1 (f_M_0 M1) (fun u v => cF_M0 M1 u v) (fun z => by omega)
                  · skip
                    obtain ⟨m, rfl⟩ : ∃ m : Nat, i = m := ⟨i.toNat, by omega⟩
                    have hm : m < 32 := by omega
                    refine t_0 qysl_0 rfl (ld_i l1) ?_
                    refine t_0 qysl_1 rfl rfl ?_
                    refine t_0 qysl_2 rfl (pq_b (by decide)) ?_
                    refine t_3 qysl_4 rfl (ar := ([oI ((m : Int)), oI (0), oI (31)], [])) (pcal_s ⟨Or.inl rfl, rfl, Nat.le_of_ble_eq_true rfl⟩) ⟨by omega, Nat.le_of_ble_eq_true rfl, Nat.le_of_ble_eq_true rfl, rfl⟩ ?_
                    refine ii_run ⟨by omega, by omega⟩ ⟨by omega, by omega⟩ ⟨by omega, by omega⟩ rfl rfl rfl (fun t1 => ?_) (fun t1 => absurd t1 (by omega))
                    show t_X d 147 7 lv [oI (1)] g P
                    refine tz_eq qysl_7 (by decide) ⟨by omega, by omega⟩ (fun c2 => absurd c2 (by omega)) (fun c2 => ?_)
                    show t_X d 147 10 lv [] g P
                    refine t_0 qysl_10 rfl (ld_i l2) ?_
                    refine t_0 qysl_11 rfl rfl ?_
                    refine t_0 qysl_12 rfl rfl ?_
                    refine t_3 qysl_13 rfl (ar := ([oI (a), oI (0), oI (3)], [])) (pcal_s ⟨Or.inl rfl, rfl, Nat.le_of_ble_eq_true rfl⟩) ⟨by omega, Nat.le_of_ble_eq_true rfl, Nat.le_of_ble_eq_true rfl, rfl⟩ ?_
                    refine ii_run ⟨by omega, by omega⟩ ⟨by omega, by omega⟩ ⟨by omega, by omega⟩ rfl rfl rfl (fun t3 => ?_) (fun t3 => absurd t3 (by omega))
                    show t_X d 147 16 lv [oI (1)] g P
                    refine tz_eq qysl_16 (by decide) ⟨by omega, by omega⟩ (fun c4 => absurd c4 (by omega)) (fun c4 => ?_)
                    show t_X d 147 19 lv [] g P
                    refine t_0 qysl_19 rfl (ld_i l3) ?_
                    refine t_0 qysl_20 rfl rfl ?_
                    refine t_0 qysl_21 rfl rfl ?_
                    refine t_3 qysl_22 rfl (ar := ([oI (b), oI (0), oI (3)], [])) (pcal_s ⟨Or.inl rfl, rfl, Nat.le_of_ble_eq_true rfl⟩) ⟨by omega, Nat.le_of_ble_eq_true rfl, Nat.le_of_ble_eq_true rfl, rfl⟩ ?_
                    refine ii_run ⟨by omega, by omega⟩ ⟨by omega, by omega⟩ ⟨by omega, by omega⟩ rfl rfl rfl (fun t5 => ?_) (fun t5 => absurd t5 (by omega))
                    show t_X d 147 25 lv [oI (1)] g P
                    refine tz_eq qysl_25 (by decide) ⟨by omega, by omega⟩ (fun c6 => absurd c6 (by omega)) (fun c6 => ?_)
                    show t_X d 147 28 lv [] g P
                    refine t_0 qysl_28 rfl (ld_i l4) ?_
                    refine t_0 qysl_30 rfl rfl ?_
                    refine t_0 qysl_31 rfl (pq_b (by decide)) ?_
                    refine t_3 qysl_33 rfl (ar := ([oI (c), oI (0), oI (99)], [])) (pcal_s ⟨Or.inl rfl, rfl, Nat.le_of_ble_eq_true rfl⟩) ⟨by omega, Nat.le_of_ble_eq_true rfl, Nat.le_of_ble_eq_true rfl, rfl⟩ ?_
                    refine ii_run ⟨by omega, by omega⟩ ⟨by omega, by omega⟩ ⟨by omega, by omega⟩ rfl rfl rfl (fun t7 => ?_) (fun t7 => absurd t7 (by omega))
                    show t_X d 147 36 lv [oI (1)] g P
                    refine tz_ne qysl_36 (by decide) ⟨by omega, by omega⟩ (fun c8 => ?_) (fun c8 => absurd c8 (by omega))
                    show t_X d 147 41 lv [] g P
                    refine t_0 qysl_41 rfl (ld_a l0) ?_
                    have r9 := cb_0_1 hJ.1
                    refine t_0 qysl_42 rfl (pq_cf (y := 1) er_0 rfl) ?_
                    refine t_0 qysl_45 rfl (pq_b (by decide)) ?_
                    refine tb_ge qysl_47 (by decide) ⟨by omega, by omega⟩ ⟨by omega, by omega⟩ (fun c10 => ?_) (fun c10 => absurd c10 (by omega))
                    show t_X d 147 52 lv [] g P
                    refine t_0 qysl_52 rfl (ld_a l0) ?_
                    refine t_0 qysl_53 rfl rfl ?_
                    refine tw_c qysl_54 er_0 rfl hJ w_0_1 gx_0_1 (by decide) ⟨by omega, by omega⟩ (fun g11 hJ11 e11 => ?_)
                    have v11 : cF g11 0 1 = 0 := by rw [e11]; exact pc_at (by omega) (by omega)
                    show t_X d 147 57 lv [] g11 P
                    refine t_0 qysl_57 rfl (ld_a l0) ?_
                    refine t_3 qysl_58 rfl (ar := ([pvR 0], [])) (pcal_v0 rfl rfl er_0) ⟨by omega, Nat.le_of_ble_eq_true rfl, Nat.le_of_ble_eq_true rfl, rfl⟩ ?_
                    refine tp_run (by omega) hJ11.1 (fun t12 => ?_) (fun t12 => ?_) rfl
                    · show t_X d 147 61 lv [oI (1)] g11 P
                      refine tz_ne qysl_61 (by decide) ⟨by omega, by omega⟩ (fun c13 => ?_) (fun c13 => absurd c13 (by omega))
                      show t_X d 147 66 lv [] g11 P
                      refine t_0 qysl_66 rfl (ld_a l0) ?_
                      refine t_0 qysl_67 rfl (cr_0_2 hJ11.1) ?_
                      refine t_0 qysl_70 rfl (cr_2_0 hJ11.1) ?_
                      refine t_0 qysl_73 rfl (ld_i l1) ?_
                      refine t_0 qysl_74 rfl (pq_a3 (rS_2 e11 hS) hm (by omega)) ?_
                      refine t_0 qysl_75 rfl (ld_a l0) ?_
                      refine t_0 qysl_76 rfl (cr_0_0 hJ11.1) ?_
                      refine t_0 qysl_79 rfl (ld_i l2) ?_
                      refine t_0 qysl_80 rfl (ld_i l3) ?_
                      refine t_0 qysl_81 rfl (ld_i l4) ?_
                      refine t_3 qysl_83 rfl (ar := ([pvR (4 + 2 * m), pvR 1, oI (a), oI (b), oI (c)], [])) (pcal_v4 rfl rfl (el_s4 hm)) ⟨by omega, Nat.le_of_ble_eq_true rfl, Nat.le_of_ble_eq_true rfl, rfl⟩ ?_
                      refine mid_L (k := kT m) (eTl_at hm) hJ11.1 (xL_K _ _ _ hJ11.2 Wsl_b.2.1 hx) (xs := [cv (pvR (4 + 2 * m)), cv (pvR 1), cv (oI a), cv (oI b), cv (oI c)]) (ys := [cF g11 0 1]) ⟨by show 3 ≤ _; omega, ⟨⟨pvR (4 + 2 * m), rfl, rfl, rfl, ok_s4 hm⟩, ⟨pvR 1, rfl, rfl, rfl, ok_t1⟩, ⟨oI a, rfl, rfl, rfl, ok_oI (by omega) (by decide) (by decide)⟩, ⟨oI b, rfl, rfl, rfl, ok_oI (by omega) (by decide) (by decide)⟩, ⟨oI c, rfl, rfl, rfl, ok_oI (by omega) (by decide) (by decide)⟩, trivial⟩, ⟨⟨.inl (g11.1 0 1), hc_i er_0 (Nat.le_of_ble_eq_true rfl) rfl, rfl, rfl, ⟨by show 0 ≤ cF g11 0 1; omega, by show cF g11 0 1 ≤ 0; omega, Or.inl rfl⟩⟩, trivial⟩, fun c hc => absurd hc List.not_mem_nil⟩ (by omega) (fun o G1 X1 M1 P1 => ?_)
                      obtain ⟨o1, o2⟩ := o
                      obtain ⟨rfl, ys, hF⟩ := po_n P1
                      have hJ9 := J_up (WT_k m hm).1 hJ11 ⟨G1, M1⟩
                      show t_X d 147 86 lv [] o2 P
                      refine t_0 qysl_86 rfl rfl ?_
                      refine t_5 qysl_87 rfl rfl ?_
                      refine hA m hm rfl (by omega) (pic_2 e11 t12) o2 G1 X1 hJ9.2 ?_ ?_ (fun j hj hn => ?_)
                      · rw [cF_M M1 (WT_k m hm).2]; omega
                      · exact fa_z (el_s4 hm) (Nat.le_of_ble_eq_true rfl) rfl hF
                      · rw [cF_M M1 (WT_n m hm j hj hn), e11]; exact pc_ne (fun z => by omega)
                    · show t_X d 147 61 lv [oI (0)] g11 P
                      refine tz_ne qysl_61 (by decide) ⟨by omega, by omega⟩ (fun c14 => absurd c14 (by omega)) (fun c14 => ?_)
                      show t_X d 147 64 lv [] g11 P
                      refine t_0 qysl_64 rfl rfl ?_
                      refine t_5 qysl_65 rfl rfl ?_
                      refine hB (by omega) (fun z => t12 (pic_1 e11 z)) g11 hJ11.1 (xL_K _ _ _ hJ11.2 Wsl_b.2.1 hx) hJ11.2 (by omega) (fun u v h => ?_)
                      rw [e11]; exact pc_ne h
