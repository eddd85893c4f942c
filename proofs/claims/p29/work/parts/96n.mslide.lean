section
/-! the tie: slide of the reference (printed by wip/e2/t6.py) -/
theorem qmy_0 : xe_look (xc 251) 0 = some (.iload_n 1, 1, 0, 0, 0) := by decide +kernel
theorem qmy_1 : xe_look (xc 251) 1 = some (.iconst 0, 1, 0, 0, 0) := by decide +kernel
theorem qmy_2 : xe_look (xc 251) 2 = some (.bipush 31, 2, 0, 0, 0) := by decide +kernel
theorem qmy_4 : xe_look (xc 251) 4 = some (.invokestatic 201, 3, 0, 199, 1131) := by decide +kernel
theorem qmy_7 : xe_look (xc 251) 7 = some (.ifCond .eq 41, 3, 0, 0, 0) := by decide +kernel
theorem qmy_10 : xe_look (xc 251) 10 = some (.iload_n 2, 1, 0, 0, 0) := by decide +kernel
theorem qmy_11 : xe_look (xc 251) 11 = some (.iconst 0, 1, 0, 0, 0) := by decide +kernel
theorem qmy_12 : xe_look (xc 251) 12 = some (.iconst 3, 1, 0, 0, 0) := by decide +kernel
theorem qmy_13 : xe_look (xc 251) 13 = some (.invokestatic 201, 3, 0, 199, 1131) := by decide +kernel
theorem qmy_16 : xe_look (xc 251) 16 = some (.ifCond .eq 32, 3, 0, 0, 0) := by decide +kernel
theorem qmy_19 : xe_look (xc 251) 19 = some (.iload_n 3, 1, 0, 0, 0) := by decide +kernel
theorem qmy_20 : xe_look (xc 251) 20 = some (.iconst 0, 1, 0, 0, 0) := by decide +kernel
theorem qmy_21 : xe_look (xc 251) 21 = some (.iconst 3, 1, 0, 0, 0) := by decide +kernel
theorem qmy_22 : xe_look (xc 251) 22 = some (.invokestatic 201, 3, 0, 199, 1131) := by decide +kernel
theorem qmy_25 : xe_look (xc 251) 25 = some (.ifCond .eq 23, 3, 0, 0, 0) := by decide +kernel
theorem qmy_28 : xe_look (xc 251) 28 = some (.iload 4, 2, 0, 0, 0) := by decide +kernel
theorem qmy_30 : xe_look (xc 251) 30 = some (.iconst 0, 1, 0, 0, 0) := by decide +kernel
theorem qmy_31 : xe_look (xc 251) 31 = some (.bipush 99, 2, 0, 0, 0) := by decide +kernel
theorem qmy_33 : xe_look (xc 251) 33 = some (.invokestatic 201, 3, 0, 199, 1131) := by decide +kernel
theorem qmy_36 : xe_look (xc 251) 36 = some (.ifCond .eq 12, 3, 0, 0, 0) := by decide +kernel
theorem qmy_39 : xe_look (xc 251) 39 = some (.aload_n 0, 1, 0, 0, 0) := by decide +kernel
theorem qmy_40 : xe_look (xc 251) 40 = some (.getfield 194, 3, 12, 17, 1132) := by decide +kernel
theorem qmy_43 : xe_look (xc 251) 43 = some (.bipush 25, 2, 0, 0, 0) := by decide +kernel
theorem qmy_45 : xe_look (xc 251) 45 = some (.if_icmp .ge 5, 3, 0, 0, 0) := by decide +kernel
theorem qmy_50 : xe_look (xc 251) 50 = some (.aload_n 0, 1, 0, 0, 0) := by decide +kernel
theorem qmy_51 : xe_look (xc 251) 51 = some (.iconst 0, 1, 0, 0, 0) := by decide +kernel
theorem qmy_52 : xe_look (xc 251) 52 = some (.putfield 194, 3, 12, 17, 1132) := by decide +kernel
theorem qmy_55 : xe_look (xc 251) 55 = some (.iconst 0, 1, 0, 0, 0) := by decide +kernel
theorem qmy_56 : xe_look (xc 251) 56 = some (.istore 5, 2, 0, 0, 0) := by decide +kernel
theorem qmy_137 : xe_look (xc 251) 137 = some (.aload_n 0, 1, 0, 0, 0) := by decide +kernel
theorem qmy_138 : xe_look (xc 251) 138 = some (.aload_n 0, 1, 0, 0, 0) := by decide +kernel
theorem qmy_139 : xe_look (xc 251) 139 = some (.getfield 183, 3, 12, 0, 1158) := by decide +kernel
theorem qmy_142 : xe_look (xc 251) 142 = some (.iconst 1, 1, 0, 0, 0) := by decide +kernel
theorem qmy_143 : xe_look (xc 251) 143 = some (.iload_n 1, 1, 0, 0, 0) := by decide +kernel
theorem qmy_144 : xe_look (xc 251) 144 = some (.ishl, 1, 0, 0, 0) := by decide +kernel
theorem qmy_145 : xe_look (xc 251) 145 = some (.ior, 1, 0, 0, 0) := by decide +kernel
theorem qmy_146 : xe_look (xc 251) 146 = some (.putfield 183, 3, 12, 0, 1158) := by decide +kernel
theorem qmz_58 : xe_look (xc 251) 58 = some (.iload 5, 2, 0, 0, 0) := by decide +kernel
theorem qmz_60 : xe_look (xc 251) 60 = some (.bipush 25, 2, 0, 0, 0) := by decide +kernel
theorem qmz_62 : xe_look (xc 251) 62 = some (.if_icmp .ge 40, 3, 0, 0, 0) := by decide +kernel
theorem qmz_65 : xe_look (xc 251) 65 = some (.aload_n 0, 1, 0, 0, 0) := by decide +kernel
theorem qmz_66 : xe_look (xc 251) 66 = some (.getfield 53, 3, 12, 16, 1134) := by decide +kernel
theorem qmz_69 : xe_look (xc 251) 69 = some (.iload 5, 2, 0, 0, 0) := by decide +kernel
theorem qmz_71 : xe_look (xc 251) 71 = some (.baload, 1, 0, 0, 0) := by decide +kernel
theorem qmz_72 : xe_look (xc 251) 72 = some (.bipush 46, 2, 0, 0, 0) := by decide +kernel
theorem qmz_74 : xe_look (xc 251) 74 = some (.if_icmp .eq 22, 3, 0, 0, 0) := by decide +kernel
theorem qmz_77 : xe_look (xc 251) 77 = some (.aload_n 0, 1, 0, 0, 0) := by decide +kernel
theorem qmz_78 : xe_look (xc 251) 78 = some (.getfield 53, 3, 12, 16, 1134) := by decide +kernel
theorem qmz_81 : xe_look (xc 251) 81 = some (.iload 5, 2, 0, 0, 0) := by decide +kernel
theorem qmz_83 : xe_look (xc 251) 83 = some (.baload, 1, 0, 0, 0) := by decide +kernel
theorem qmz_84 : xe_look (xc 251) 84 = some (.bipush 97, 2, 0, 0, 0) := by decide +kernel
theorem qmz_86 : xe_look (xc 251) 86 = some (.bipush 122, 2, 0, 0, 0) := by decide +kernel
theorem qmz_88 : xe_look (xc 251) 88 = some (.invokestatic 201, 3, 0, 199, 1131) := by decide +kernel
theorem qmz_91 : xe_look (xc 251) 91 = some (.ifCond .ne 5, 3, 0, 0, 0) := by decide +kernel
theorem qmz_94 : xe_look (xc 251) 94 = some (.iconst 0, 1, 0, 0, 0) := by decide +kernel
theorem qmz_95 : xe_look (xc 251) 95 = some (.ireturn, 1, 0, 0, 0) := by decide +kernel
theorem qmz_96 : xe_look (xc 251) 96 = some (.iinc 5 1, 3, 0, 0, 0) := by decide +kernel
theorem qmz_99 : xe_look (xc 251) 99 = some (.goto (-41), 3, 0, 0, 0) := by decide +kernel
theorem pr_at {f : pH} {k y : Nat} {v : Int32} : (pu f.1 k y v, f.2).1 k y = v := pu_at ..
theorem pr_ne {f : pH} {k y a b : Nat} {v : Int32} (h : ¬ (a = k ∧ b = y)) : (pu f.1 k y v, f.2).1 a b = f.1 a b := if_neg h
section TX2
variable {d μ pc W : Nat} {lv : List (Nat × pv)} {r : List pv} {h0 g : pH} {P : Option pv × pH → Prop}
theorem tw_v {i x k y z : Nat} {v : Int32} (hq : xe_look (xc μ) pc = some (.putfield i, 3, x, y, z)) (hk : eL[k]? = some (0, x)) (ht : xk_ty x y = .int) (hJ : J_ W h0 g) (hW : W.testBit (cn k + y) = true) (hg : eG (cn k + y) = (-2147483648, 2147483647, [])) (hP : ∀ g1 : pH, J_ W h0 g1 → g1 = (pu g.1 k y v, g.2) → t_X d μ (pc + 3) lv r g1 P) : t_X d μ pc lv (.inl v :: pvR k :: r) g P := by
  refine t_4 hq rfl (pputi hk ht) (hP _ (J_puti hJ hk ht hW ?_) rfl)
  rw [hg]
  exact ok_full32 v
end TX2
theorem bt_clr {b : Int32} {v j : Nat} (hv : v < 32) (hj : j < 32) : (b &&& ((Int32.ofInt 1 <<< (Int32.ofInt (v : Int) &&& 31)) ^^^ Int32.ofInt (-1))).toBitVec.getLsbD j = (b.toBitVec.getLsbD j && !decide (j = v)) := by
  rw [← nI_o, bt_and hv, Int32.toBitVec_and, Int32.toBitVec_xor, Int32.toBitVec_shiftLeft, BitVec.getLsbD_and, BitVec.getLsbD_xor]
  have e1 : (Int32.ofInt 1).toBitVec <<< (nI v).toBitVec.smod 32 = 1#32 <<< v := by
    have e2 := bt_mod hv
    show (1#32) <<< ((nI v).toBitVec.smod 32).toNat = _
    rw [e2]
  have e3 : (Int32.ofInt (-1)).toBitVec = BitVec.allOnes 32 := by decide
  rw [e1, e3, BitVec.getLsbD_shiftLeft, BitVec.getLsbD_one, BitVec.getLsbD_allOnes]
  congr 1
  by_cases q : j = v
  · subst q; simp [hj]
  · simp [q, hj]; omega
theorem bt_st {b : Int32} {v j : Nat} (hv : v < 32) (hj : j < 32) : (b ||| (Int32.ofInt 1 <<< (Int32.ofInt (v : Int) &&& 31))).toBitVec.getLsbD j = (b.toBitVec.getLsbD j || decide (j = v)) := by
  rw [← nI_o]
  exact bt_set hv hj
def picM (g : pH) : Prop := ∀ k, k < 25 → fA g 211 k = 46 ∨ (97 ≤ fA g 211 k ∧ fA g 211 k ≤ 122)
theorem lv_i {lv : List (Nat × pv)} {q : Nat} {lo hi : Int} {xs : List Int} {ss : List eSL} (h : m_L lv ((q, 0, (lo, hi, [])) :: ss) xs) : ∃ (e : Int) (ys : List Int), px_lg lv q = some (oI e) ∧ (lo ≤ e ∧ e ≤ hi) ∧ m_L lv ss ys := by
  match xs, h with
  | x :: xs, h =>
    obtain ⟨⟨v, h1, h2, h3, h4⟩, h5⟩ := h
    obtain ⟨z, rfl⟩ := ct_0 h2
    have h3 : z.toInt = x := h3
    refine ⟨z.toInt, xs, ?_, ?_, h5⟩
    · rw [h1, oI_r]
    · rw [h3]
      exact ⟨h4.1, h4.2.1⟩
theorem lv_r {lv : List (Nat × pv)} {k r : Nat} {xs : List Int} (hr : r = k + 1) {ss : List eSL} (h : m_L lv ((0, 2, (0, 100000, [r])) :: ss) xs) : px_lg lv 0 = some (pvR k) ∧ ∃ ys, m_L lv ss ys := by
  match xs, h with
  | x :: xs, h =>
    obtain ⟨⟨v, h1, h2, h3, h4⟩, h5⟩ := h
    refine ⟨?_, xs, h5⟩
    obtain ⟨q, rfl⟩ := ct_2 h2
    rcases h4.2.2 with z | z
    · cases z
    · have z := List.mem_singleton.mp z
      match q, h1, h3 with
      | none, h1, h3 =>
        have h3 : (0 : Int) = x := h3
        subst h3
        rw [hr] at z
        have z : (0 : Int).toNat = k + 1 := z
        omega
      | some q, h1, h3 =>
        have h3 : (q : Int) + 1 = x := h3
        have z2 : x.toNat = k + 1 := by rw [← hr]; exact z
        rw [show q = k by omega] at h1
        exact h1
def kmsl_1 : eK := (251, (1, [(0, 2, (0, 100000, [197])), (1, 0, ((-2147483648), (-1), [])), (2, 0, ((-2147483648), 2147483647, [])), (3, 0, ((-2147483648), 2147483647, [])), (4, 0, ((-2147483648), 2147483647, []))], [], []), (0, []), 0, [(some (0, (0, 0, [])), [], [])])
theorem emsl_1 : ex_mid eG eKT eDX 4000 kmsl_1 [] 0 = true := by decide +kernel
def kmsl_2 : eK := (251, (1, [(0, 2, (0, 100000, [197])), (1, 0, (32, 2147483647, [])), (2, 0, ((-2147483648), 2147483647, [])), (3, 0, ((-2147483648), 2147483647, [])), (4, 0, ((-2147483648), 2147483647, []))], [], []), (0, []), 0, [(some (0, (0, 0, [])), [], [])])
theorem emsl_2 : ex_mid eG eKT eDX 4000 kmsl_2 [] 0 = true := by decide +kernel
def kmsl_3 : eK := (251, (1, [(0, 2, (0, 100000, [197])), (1, 0, ((-2147483648), 2147483647, [])), (2, 0, ((-2147483648), (-1), [])), (3, 0, ((-2147483648), 2147483647, [])), (4, 0, ((-2147483648), 2147483647, []))], [], []), (0, []), 0, [(some (0, (0, 0, [])), [], [])])
theorem emsl_3 : ex_mid eG eKT eDX 4000 kmsl_3 [] 0 = true := by decide +kernel
def kmsl_4 : eK := (251, (1, [(0, 2, (0, 100000, [197])), (1, 0, ((-2147483648), 2147483647, [])), (2, 0, (4, 2147483647, [])), (3, 0, ((-2147483648), 2147483647, [])), (4, 0, ((-2147483648), 2147483647, []))], [], []), (0, []), 0, [(some (0, (0, 0, [])), [], [])])
theorem emsl_4 : ex_mid eG eKT eDX 4000 kmsl_4 [] 0 = true := by decide +kernel
def kmsl_5 : eK := (251, (1, [(0, 2, (0, 100000, [197])), (1, 0, ((-2147483648), 2147483647, [])), (2, 0, ((-2147483648), 2147483647, [])), (3, 0, ((-2147483648), (-1), [])), (4, 0, ((-2147483648), 2147483647, []))], [], []), (0, []), 0, [(some (0, (0, 0, [])), [], [])])
theorem emsl_5 : ex_mid eG eKT eDX 4000 kmsl_5 [] 0 = true := by decide +kernel
def kmsl_6 : eK := (251, (1, [(0, 2, (0, 100000, [197])), (1, 0, ((-2147483648), 2147483647, [])), (2, 0, ((-2147483648), 2147483647, [])), (3, 0, (4, 2147483647, [])), (4, 0, ((-2147483648), 2147483647, []))], [], []), (0, []), 0, [(some (0, (0, 0, [])), [], [])])
theorem emsl_6 : ex_mid eG eKT eDX 4000 kmsl_6 [] 0 = true := by decide +kernel
def kmsl_7 : eK := (251, (1, [(0, 2, (0, 100000, [197])), (1, 0, ((-2147483648), 2147483647, [])), (2, 0, ((-2147483648), 2147483647, [])), (3, 0, ((-2147483648), 2147483647, [])), (4, 0, ((-2147483648), (-1), []))], [], []), (0, []), 0, [(some (0, (0, 0, [])), [], [])])
theorem emsl_7 : ex_mid eG eKT eDX 4000 kmsl_7 [] 0 = true := by decide +kernel
def kmsl_8 : eK := (251, (1, [(0, 2, (0, 100000, [197])), (1, 0, ((-2147483648), 2147483647, [])), (2, 0, ((-2147483648), 2147483647, [])), (3, 0, ((-2147483648), 2147483647, [])), (4, 0, (100, 2147483647, []))], [], []), (0, []), 0, [(some (0, (0, 0, [])), [], [])])
theorem emsl_8 : ex_mid eG eKT eDX 4000 kmsl_8 [] 0 = true := by decide +kernel
def kmsl_9 : eK := (251, (1, [(0, 2, (0, 100000, [197])), (1, 0, (0, 31, [])), (2, 0, (0, 3, [])), (3, 0, (0, 3, [])), (4, 0, (0, 99, []))], [(196, 17, 0, (0, 24, []))], []), (0, []), 0, [(some (0, (0, 0, [])), [], [])])
theorem emsl_9 : ex_mid eG eKT eDX 4000 kmsl_9 [] 0 = true := by decide +kernel
theorem gk_17 {g : pH} (hG : g_I eG g) : 0 ≤ fF g 17 ∧ fF g 17 ≤ 260 := gb_f hG (y := 17) rfl rfl gf_17
set_option maxHeartbeats 2000000 in
theorem ms_loop {d : Nat} (hd : 1 ≤ d) {g : pH} (hG : g_I eG g) {i a b c : Int} {P : Option pv × pH → Prop} (hA : picM g → ∀ lv : List (Nat × pv), px_lg lv 0 = some (pvR 196) → px_lg lv 1 = some (oI i) → px_lg lv 2 = some (oI a) → px_lg lv 3 = some (oI b) → px_lg lv 4 = some (oI c) → t_X d 251 102 lv [] g P) (hB : ¬ picM g → P (some (oI 0), g)) : ∀ (n m : Nat) (lv : List (Nat × pv)), 25 - m ≤ n → m ≤ 25 → (∀ k, k < m → fA g 211 k = 46 ∨ (97 ≤ fA g 211 k ∧ fA g 211 k ≤ 122)) → px_lg lv 0 = some (pvR 196) → px_lg lv 1 = some (oI i) → px_lg lv 2 = some (oI a) → px_lg lv 3 = some (oI b) → px_lg lv 4 = some (oI c) → px_lg lv 5 = some (oI (m : Int)) → t_X d 251 58 lv [] g P := by
  have hJ : J_ 0 g g := J_rf hG
  intro n
  induction n with
  | zero =>
    intro m lv hn hm hp l0 l1 l2 l3 l4 l5
    refine t_0 qmz_58 rfl (ld_i l5) ?_
    refine t_0 qmz_60 rfl (pq_b (by decide)) ?_
    refine tb_ge qmz_62 (by decide) ⟨by omega, by omega⟩ ⟨by omega, by omega⟩ (fun c1 => ?_) (fun c1 => absurd c1 (by omega))
    show t_X d 251 102 lv [] g P
    exact hA (fun k hk => hp k (by omega)) lv l0 l1 l2 l3 l4
  | succ n ih =>
    intro m lv hn hm2 hp l0 l1 l2 l3 l4 l5
    by_cases hm : m < 25
    · skip
      refine t_0 qmz_58 rfl (ld_i l5) ?_
      refine t_0 qmz_60 rfl (pq_b (by decide)) ?_
      refine tb_ge qmz_62 (by decide) ⟨by omega, by omega⟩ ⟨by omega, by omega⟩ (fun c1 => absurd c1 (by omega)) (fun c1 => ?_)
      show t_X d 251 65 lv [] g P
      refine t_0 qmz_65 rfl (ld_a l0) ?_
      refine t_0 qmz_66 rfl (ar_16 hJ.1) ?_
      refine t_0 qmz_69 rfl (ld_i l5) ?_
      refine t_0 qmz_71 rfl (pq_ba el_211 rfl ⟨by omega, by omega⟩) ?_
      show t_X d 251 72 lv [oI (fA g 211 m)] g P
      have r2 := fA_b g 211 m
      refine t_0 qmz_72 rfl (pq_b (by decide)) ?_
      refine tb_eq qmz_74 (by decide) ⟨by omega, by omega⟩ ⟨by omega, by omega⟩ (fun c3 => ?_) (fun c3 => ?_)
      · show t_X d 251 96 lv [] g P
        refine t_2 qmz_96 rfl (w := (px_s1 lv 5 (oI ((m : Int) + 1)), [])) (pq_inc l5 (by decide)) ?_
        replace l0 : px_lg (px_s1 lv 5 (oI ((m : Int) + 1))) 0 = some (pvR 196) := s1_ne (by decide) (fun _ => rfl) l0
        replace l1 : px_lg (px_s1 lv 5 (oI ((m : Int) + 1))) 1 = some (oI (i)) := s1_ne (by decide) (fun _ => rfl) l1
        replace l2 : px_lg (px_s1 lv 5 (oI ((m : Int) + 1))) 2 = some (oI (a)) := s1_ne (by decide) (fun _ => rfl) l2
        replace l3 : px_lg (px_s1 lv 5 (oI ((m : Int) + 1))) 3 = some (oI (b)) := s1_ne (by decide) (fun _ => rfl) l3
        replace l4 : px_lg (px_s1 lv 5 (oI ((m : Int) + 1))) 4 = some (oI (c)) := s1_ne (by decide) (fun _ => rfl) l4
        have l5 : px_lg (px_s1 lv 5 (oI ((m : Int) + 1))) 5 = some (oI ((m : Int) + 1)) := s1_eq
        generalize px_s1 lv 5 (oI ((m : Int) + 1)) = lv4 at l0 l1 l2 l3 l4 l5 ⊢
        show t_X d 251 99 lv4 [] g P
        refine t_1 qmz_99 rfl (pb_goto (pc := 99) (by decide)) ?_
        show t_X d 251 58 lv4 [] g P
        exact ih (m + 1) _ (by omega) (by omega) (fun k hk => by rcases Nat.lt_or_ge k m with z | z; exact hp k z; rw [show k = m by omega]; omega) l0 l1 l2 l3 l4 l5
      · show t_X d 251 77 lv [] g P
        refine t_0 qmz_77 rfl (ld_a l0) ?_
        refine t_0 qmz_78 rfl (ar_16 hJ.1) ?_
        refine t_0 qmz_81 rfl (ld_i l5) ?_
        refine t_0 qmz_83 rfl (pq_ba el_211 rfl ⟨by omega, by omega⟩) ?_
        show t_X d 251 84 lv [oI (fA g 211 m)] g P
        have r5 := fA_b g 211 m
        refine t_0 qmz_84 rfl (pq_b (by decide)) ?_
        refine t_0 qmz_86 rfl (pq_b (by decide)) ?_
        refine t_3 qmz_88 rfl (ar := ([oI (fA g 211 m), oI (97), oI (122)], [])) (pcal_s ⟨Or.inl rfl, rfl, Nat.le_of_ble_eq_true rfl⟩) ⟨by omega, Nat.le_of_ble_eq_true rfl, Nat.le_of_ble_eq_true rfl, rfl⟩ ?_
        refine in_run ⟨by omega, by omega⟩ ⟨by omega, by omega⟩ ⟨by omega, by omega⟩ rfl rfl rfl (fun t6 => ?_) (fun t6 => ?_)
        · show t_X d 251 91 lv [oI (1)] g P
          refine tz_ne qmz_91 (by decide) ⟨by omega, by omega⟩ (fun c7 => ?_) (fun c7 => absurd c7 (by omega))
          show t_X d 251 96 lv [] g P
          refine t_2 qmz_96 rfl (w := (px_s1 lv 5 (oI ((m : Int) + 1)), [])) (pq_inc l5 (by decide)) ?_
          replace l0 : px_lg (px_s1 lv 5 (oI ((m : Int) + 1))) 0 = some (pvR 196) := s1_ne (by decide) (fun _ => rfl) l0
          replace l1 : px_lg (px_s1 lv 5 (oI ((m : Int) + 1))) 1 = some (oI (i)) := s1_ne (by decide) (fun _ => rfl) l1
          replace l2 : px_lg (px_s1 lv 5 (oI ((m : Int) + 1))) 2 = some (oI (a)) := s1_ne (by decide) (fun _ => rfl) l2
          replace l3 : px_lg (px_s1 lv 5 (oI ((m : Int) + 1))) 3 = some (oI (b)) := s1_ne (by decide) (fun _ => rfl) l3
          replace l4 : px_lg (px_s1 lv 5 (oI ((m : Int) + 1))) 4 = some (oI (c)) := s1_ne (by decide) (fun _ => rfl) l4
          have l5 : px_lg (px_s1 lv 5 (oI ((m : Int) + 1))) 5 = some (oI ((m : Int) + 1)) := s1_eq
          generalize px_s1 lv 5 (oI ((m : Int) + 1)) = lv8 at l0 l1 l2 l3 l4 l5 ⊢
          show t_X d 251 99 lv8 [] g P
          refine t_1 qmz_99 rfl (pb_goto (pc := 99) (by decide)) ?_
          show t_X d 251 58 lv8 [] g P
          exact ih (m + 1) _ (by omega) (by omega) (fun k hk => by rcases Nat.lt_or_ge k m with z | z; exact hp k z; rw [show k = m by omega]; omega) l0 l1 l2 l3 l4 l5
        · show t_X d 251 91 lv [oI (0)] g P
          refine tz_ne qmz_91 (by decide) ⟨by omega, by omega⟩ (fun c9 => absurd c9 (by omega)) (fun c9 => ?_)
          show t_X d 251 94 lv [] g P
          refine t_0 qmz_94 rfl rfl ?_
          refine t_5 qmz_95 rfl rfl ?_
          exact hB (fun z => by have z1 := z m (by omega); omega)
    · skip
      refine t_0 qmz_58 rfl (ld_i l5) ?_
      refine t_0 qmz_60 rfl (pq_b (by decide)) ?_
      refine tb_ge qmz_62 (by decide) ⟨by omega, by omega⟩ ⟨by omega, by omega⟩ (fun c1 => ?_) (fun c1 => absurd c1 (by omega))
      show t_X d 251 102 lv [] g P
      exact hA (fun k hk => hp k (by omega)) lv l0 l1 l2 l3 l4
def cmsl (m : Nat) : List eCc := [(105, (1, [(0, 2, (0, 100000, [197])), (1, 0, ((m : Int), (m : Int), [])), (2, 0, (0, 3, [])), (3, 0, (0, 3, [])), (4, 0, (0, 99, [])), (5, 0, (0, 25, []))], [], []), (25, [(6, (-1))]))]
def kmsa (m : Nat) : eK := (251, (1, [(0, 2, (0, 100000, [197])), (1, 0, ((m : Int), (m : Int), [])), (2, 0, (0, 3, [])), (3, 0, (0, 3, [])), (4, 0, (0, 99, []))], [], []), (0, []), 2 ^ cn 210, [])
def smsa (m : Nat) : eCc := (137, (1, [(0, 2, (0, 100000, [197])), (1, 0, ((m : Int), (m : Int), [])), (2, 0, (0, 3, [])), (3, 0, (0, 3, [])), (4, 0, (0, 99, []))], [], []), (-1, []))
theorem emsa : (List.range 32).all (fun m => ex_to eG eKT eDX 4000 (kmsa m) (cmsl m) (smsa m) 102) = true := by decide +kernel
theorem emsa_at {m : Nat} (h : m < 32) : ex_to eG eKT eDX 4000 (kmsa m) (cmsl m) (smsa m) 102 = true := List.all_eq_true.mp emsa m (List.mem_range.mpr h)
def kmsb : eK := (251, (1, [(0, 2, (0, 100000, [197])), (1, 0, (0, 31, [])), (2, 0, (0, 3, [])), (3, 0, (0, 3, [])), (4, 0, (0, 99, []))], [], []), (0, []), 2377856618781599775606225302641545947853799353253181836555769175559959480547007969001610076075210503250974399560463715036764037447109554947365028900300287434365631758789379419288472675939573090198083100808929284445179285893796349486762112722174427609529968267957443721487966175958027043078144, [(some (0, (1, 1, [])), [], [])])
theorem emsb : ex_mid eG eKT eDX 4000 kmsb [] 149 = true := by decide +kernel
theorem Wmsl : kk_3.2.2.2.1.testBit (cn 196 + 17) = true ∧ kk_3.2.2.2.1.testBit (cn 196 + 0) = true ∧ kk_3.2.2.2.1 &&& eDX = 0 ∧ 2 ^ cn 210 &&& kk_3.2.2.2.1 = 2 ^ cn 210 ∧ kmsb.2.2.2.1 &&& kk_3.2.2.2.1 = kmsb.2.2.2.1 ∧ (2 ^ cn 210).testBit (cn 196 + 0) = false ∧ (2 ^ cn 210).testBit (cn 196 + 17) = false ∧ kmsb.2.2.2.1.testBit (cn 196 + 0) = false ∧ kmsb.2.2.2.1.testBit (cn 196 + 17) = false := by decide +kernel
theorem gF_0 : eG (cn 196 + 0) = (-2147483648, 2147483647, []) := by decide +kernel
set_option maxHeartbeats 4000000 in
theorem ms_tail {d : Nat} (hd : 2 ≤ d) (hd2 : d ≤ 1000000) {h0 g : pH} (hx0 : xL h0) (hJ : J_ kk_3.2.2.2.1 h0 g) {m : Nat} (hm : m < 32) {a b c : Int} (ha : 0 ≤ a ∧ a ≤ 3) (hb : 0 ≤ b ∧ b ≤ 3) (hc : 0 ≤ c ∧ c ≤ 99) {P : Option pv × pH → Prop} (hP : ∀ g1 : pH, J_ kk_3.2.2.2.1 h0 g1 → xL g1 → fF g1 17 = fF g 17 → g1.1 196 0 = (g.1 196 0 ||| (Int32.ofInt 1 <<< (Int32.ofInt (m : Int) &&& 31))) → P (some (oI 1), g1)) {lv : List (Nat × pv)} (l0 : px_lg lv 0 = some (pvR 196)) (l1 : px_lg lv 1 = some (oI (m : Int))) (l2 : px_lg lv 2 = some (oI a)) (l3 : px_lg lv 3 = some (oI b)) (l4 : px_lg lv 4 = some (oI c)) : t_X d 251 102 lv [] g P := by
  have w_0 := Wmsl.2.1
  refine to_L (k := kmsa m) (emsa_at hm) rfl hJ.1 (xL_K _ _ _ hJ.2 Wmsl.2.2.1 hx0) (xs := [cv (pvR 196), cv (oI (m : Int)), cv (oI a), cv (oI b), cv (oI c)]) (ys := []) ⟨by show 1 ≤ _; omega, ⟨⟨pvR 196, l0, rfl, rfl, ok_this⟩, ⟨oI (m : Int), l1, rfl, rfl, ok_oI (by omega) (by omega) (by omega)⟩, ⟨oI a, l2, rfl, rfl, ok_oI (by omega) (by decide) (by decide)⟩, ⟨oI b, l3, rfl, rfl, ok_oI (by omega) (by decide) (by decide)⟩, ⟨oI c, l4, rfl, rfl, ok_oI (by omega) (by decide) (by decide)⟩, trivial⟩, trivial, fun c hc => absurd hc List.not_mem_nil⟩ (by omega) (fun lvA gA xs2 ys2 G2 X2 M2 P2 => ?_)
  clear ha hb hc l0 l1 l2 l3 l4
  obtain ⟨-, L2, -, -⟩ := P2
  obtain ⟨l0, y0, L2⟩ := lv_r rfl L2
  obtain ⟨e1, y1, l1, h1, L2⟩ := lv_i L2
  obtain ⟨a, y2, l2, ha, L2⟩ := lv_i L2
  obtain ⟨b, y3, l3, hb, L2⟩ := lv_i L2
  obtain ⟨c, y4, l4, hc, L2⟩ := lv_i L2
  obtain rfl : e1 = (m : Int) := by omega
  have hJA : J_ kk_3.2.2.2.1 h0 gA := J_up Wmsl.2.2.2.1 hJ ⟨G2, M2⟩
  show t_X d 251 137 lvA [] gA P
  refine t_0 qmy_137 rfl (ld_a l0) ?_
  refine t_0 qmy_138 rfl (ld_a l0) ?_
  have r1 := fF_b gA 0
  refine t_0 qmy_139 rfl (pq_gf (y := 0) rfl) ?_
  refine t_0 qmy_142 rfl rfl ?_
  refine t_0 qmy_143 rfl (ld_i l1) ?_
  refine t_0 qmy_144 rfl rfl ?_
  refine t_0 qmy_145 rfl rfl ?_
  refine tw_v qmy_146 el_196 rfl hJA w_0 gF_0 (fun g2 hJ2 e2 => ?_)
  show t_X d 251 149 lvA [] g2 P
  refine mid_L (k := kmsb) emsb hJ2.1 (xL_K _ _ _ hJ2.2 Wmsl.2.2.1 hx0) (xs := [cv (pvR 196), cv (oI (m : Int)), cv (oI a), cv (oI b), cv (oI c)]) (ys := []) ⟨by show 1 ≤ _; omega, ⟨⟨pvR 196, l0, rfl, rfl, ok_this⟩, ⟨oI (m : Int), l1, rfl, rfl, ok_oI (by omega) (by decide) (by decide)⟩, ⟨oI a, l2, rfl, rfl, ok_oI (by omega) (by decide) (by decide)⟩, ⟨oI b, l3, rfl, rfl, ok_oI (by omega) (by decide) (by decide)⟩, ⟨oI c, l4, rfl, rfl, ok_oI (by omega) (by decide) (by decide)⟩, trivial⟩, trivial, fun c hc => absurd hc List.not_mem_nil⟩ (by omega) (fun o G1 X1 M1 P1 => ?_)
  obtain ⟨o1, o2⟩ := o
  obtain ⟨rfl, -⟩ := po_c P1
  refine hP o2 (J_up Wmsl.2.2.2.2.1 hJ2 ⟨G1, M1⟩) X1 ?_ ?_
  · rw [fF_M M1 Wmsl.2.2.2.2.2.2.2.2, e2]; exact (congrArg Int32.toInt (pr_ne (by decide))).trans (fF_M M2 Wmsl.2.2.2.2.2.2.1)
  · rw [(M1.1 196 0 Wmsl.2.2.2.2.2.2.2.1).1, e2]
    rw [pr_at, ← (M2.1 196 0 Wmsl.2.2.2.2.2.1).1]
    exact congrArg (· ||| _) (Int32.ofInt_toInt _)
theorem picM_1 {g g1 : pH} {f : Nat → Nat → Int32} (e : g1 = (f, g.2)) (h : picM g) : picM g1 := by rw [e]; exact h
theorem picM_2 {g g1 : pH} {f : Nat → Nat → Int32} (e : g1 = (f, g.2)) (h : picM g1) : picM g := by rw [e] at h; exact h
set_option maxHeartbeats 4000000 in
theorem ms_run {d : Nat} (hd : 6 ≤ d) (hd2 : d ≤ 1000000) {g : pH} (hG : g_I eG g) (hx : xL g) {i a b c : Int} (hi : -2147483648 ≤ i ∧ i ≤ 2147483647) (ha : -2147483648 ≤ a ∧ a ≤ 2147483647) (hb9 : -2147483648 ≤ b ∧ b ≤ 2147483647) (hc : -2147483648 ≤ c ∧ c ≤ 2147483647) {P : Option pv × pH → Prop} (hA : ∀ m : Nat, m < 32 → i = m → (0 ≤ i ∧ i ≤ 31) ∧ (0 ≤ a ∧ a ≤ 3) ∧ (0 ≤ b ∧ b ≤ 3) ∧ (0 ≤ c ∧ c ≤ 99) ∧ 25 ≤ cF g 196 17 → picM g → ∀ g1 : pH, g_I eG g1 → xL g1 → f_M kk_3.2.2.2.1 g g1 → cF g1 196 17 = 0 → (∀ j, j < 32 → (g1.1 196 0).toBitVec.getLsbD j = ((g.1 196 0).toBitVec.getLsbD j || decide (j = m))) → P (some (oI 1), g1)) (hB : (0 ≤ i ∧ i ≤ 31) ∧ (0 ≤ a ∧ a ≤ 3) ∧ (0 ≤ b ∧ b ≤ 3) ∧ (0 ≤ c ∧ c ≤ 99) ∧ 25 ≤ cF g 196 17 → ¬ picM g → ∀ g1 : pH, g_I eG g1 → xL g1 → f_M kk_3.2.2.2.1 g g1 → cF g1 196 17 = 0 → g1.1 196 0 = g.1 196 0 → P (some (oI 0), g1)) (hR : ∀ g1 : pH, g_I eG g1 → xL g1 → f_M kk_3.2.2.2.1 g g1 → (∀ u v, cF g1 u v = cF g u v) → ¬ ((0 ≤ i ∧ i ≤ 31) ∧ (0 ≤ a ∧ a ≤ 3) ∧ (0 ≤ b ∧ b ≤ 3) ∧ (0 ≤ c ∧ c ≤ 99) ∧ 25 ≤ cF g 196 17) → P (some (oI 0), g1)) {lv : List (Nat × pv)} (l0 : px_lg lv 0 = some (pvR 196)) (l1 : px_lg lv 1 = some (oI i)) (l2 : px_lg lv 2 = some (oI a)) (l3 : px_lg lv 3 = some (oI b)) (l4 : px_lg lv 4 = some (oI c)) : t_X d 251 0 lv [] g P := by
  have hJ : J_ kk_3.2.2.2.1 g g := J_rf hG
  have w_17 := Wmsl.1
  have hb : 0 ≤ cF g 196 17 ∧ cF g 196 17 ≤ 260 := gk_17 hG
  have hb2 : cF g 196 17 = fF g 17 := rfl
  by_cases a0 : i < 0
  · refine mid_L (k := kmsl_1) emsl_1 hG hx (xs := [cv (pvR 196), cv (oI i), cv (oI a), cv (oI b), cv (oI c)]) (ys := []) ⟨by show 1 ≤ _; omega, ⟨⟨pvR 196, l0, rfl, rfl, ok_this⟩, ⟨oI i, l1, rfl, rfl, ok_oI (by omega) (by decide) (by decide)⟩, ⟨oI a, l2, rfl, rfl, ok_full32 _⟩, ⟨oI b, l3, rfl, rfl, ok_full32 _⟩, ⟨oI c, l4, rfl, rfl, ok_full32 _⟩, trivial⟩, trivial, fun c hc => absurd hc List.not_mem_nil⟩ (by omega) (fun o G1 X1 M1 P1 => ?_)
    obtain ⟨o1, o2⟩ := o
    obtain ⟨rfl, -⟩ := po_c P1
    exact hR _ G1 X1 (f_M_0 M1) (fun u v => cF_M0 M1 u v) (fun z => by omega)
  · skip
    by_cases a1 : 31 < i
    · refine mid_L (k := kmsl_2) emsl_2 hG hx (xs := [cv (pvR 196), cv (oI i), cv (oI a), cv (oI b), cv (oI c)]) (ys := []) ⟨by show 1 ≤ _; omega, ⟨⟨pvR 196, l0, rfl, rfl, ok_this⟩, ⟨oI i, l1, rfl, rfl, ok_oI (by omega) (by decide) (by decide)⟩, ⟨oI a, l2, rfl, rfl, ok_full32 _⟩, ⟨oI b, l3, rfl, rfl, ok_full32 _⟩, ⟨oI c, l4, rfl, rfl, ok_full32 _⟩, trivial⟩, trivial, fun c hc => absurd hc List.not_mem_nil⟩ (by omega) (fun o G1 X1 M1 P1 => ?_)
      obtain ⟨o1, o2⟩ := o
      obtain ⟨rfl, -⟩ := po_c P1
      exact hR _ G1 X1 (f_M_0 M1) (fun u v => cF_M0 M1 u v) (fun z => by omega)
    · skip
      by_cases a2 : a < 0
      · refine mid_L (k := kmsl_3) emsl_3 hG hx (xs := [cv (pvR 196), cv (oI i), cv (oI a), cv (oI b), cv (oI c)]) (ys := []) ⟨by show 1 ≤ _; omega, ⟨⟨pvR 196, l0, rfl, rfl, ok_this⟩, ⟨oI i, l1, rfl, rfl, ok_full32 _⟩, ⟨oI a, l2, rfl, rfl, ok_oI (by omega) (by decide) (by decide)⟩, ⟨oI b, l3, rfl, rfl, ok_full32 _⟩, ⟨oI c, l4, rfl, rfl, ok_full32 _⟩, trivial⟩, trivial, fun c hc => absurd hc List.not_mem_nil⟩ (by omega) (fun o G1 X1 M1 P1 => ?_)
        obtain ⟨o1, o2⟩ := o
        obtain ⟨rfl, -⟩ := po_c P1
        exact hR _ G1 X1 (f_M_0 M1) (fun u v => cF_M0 M1 u v) (fun z => by omega)
      · skip
        by_cases a3 : 3 < a
        · refine mid_L (k := kmsl_4) emsl_4 hG hx (xs := [cv (pvR 196), cv (oI i), cv (oI a), cv (oI b), cv (oI c)]) (ys := []) ⟨by show 1 ≤ _; omega, ⟨⟨pvR 196, l0, rfl, rfl, ok_this⟩, ⟨oI i, l1, rfl, rfl, ok_full32 _⟩, ⟨oI a, l2, rfl, rfl, ok_oI (by omega) (by decide) (by decide)⟩, ⟨oI b, l3, rfl, rfl, ok_full32 _⟩, ⟨oI c, l4, rfl, rfl, ok_full32 _⟩, trivial⟩, trivial, fun c hc => absurd hc List.not_mem_nil⟩ (by omega) (fun o G1 X1 M1 P1 => ?_)
          obtain ⟨o1, o2⟩ := o
          obtain ⟨rfl, -⟩ := po_c P1
          exact hR _ G1 X1 (f_M_0 M1) (fun u v => cF_M0 M1 u v) (fun z => by omega)
        · skip
          by_cases a4 : b < 0
          · refine mid_L (k := kmsl_5) emsl_5 hG hx (xs := [cv (pvR 196), cv (oI i), cv (oI a), cv (oI b), cv (oI c)]) (ys := []) ⟨by show 1 ≤ _; omega, ⟨⟨pvR 196, l0, rfl, rfl, ok_this⟩, ⟨oI i, l1, rfl, rfl, ok_full32 _⟩, ⟨oI a, l2, rfl, rfl, ok_full32 _⟩, ⟨oI b, l3, rfl, rfl, ok_oI (by omega) (by decide) (by decide)⟩, ⟨oI c, l4, rfl, rfl, ok_full32 _⟩, trivial⟩, trivial, fun c hc => absurd hc List.not_mem_nil⟩ (by omega) (fun o G1 X1 M1 P1 => ?_)
            obtain ⟨o1, o2⟩ := o
            obtain ⟨rfl, -⟩ := po_c P1
            exact hR _ G1 X1 (f_M_0 M1) (fun u v => cF_M0 M1 u v) (fun z => by omega)
          · skip
            by_cases a5 : 3 < b
            · refine mid_L (k := kmsl_6) emsl_6 hG hx (xs := [cv (pvR 196), cv (oI i), cv (oI a), cv (oI b), cv (oI c)]) (ys := []) ⟨by show 1 ≤ _; omega, ⟨⟨pvR 196, l0, rfl, rfl, ok_this⟩, ⟨oI i, l1, rfl, rfl, ok_full32 _⟩, ⟨oI a, l2, rfl, rfl, ok_full32 _⟩, ⟨oI b, l3, rfl, rfl, ok_oI (by omega) (by decide) (by decide)⟩, ⟨oI c, l4, rfl, rfl, ok_full32 _⟩, trivial⟩, trivial, fun c hc => absurd hc List.not_mem_nil⟩ (by omega) (fun o G1 X1 M1 P1 => ?_)
              obtain ⟨o1, o2⟩ := o
              obtain ⟨rfl, -⟩ := po_c P1
              exact hR _ G1 X1 (f_M_0 M1) (fun u v => cF_M0 M1 u v) (fun z => by omega)
            · skip
              by_cases a6 : c < 0
              · refine mid_L (k := kmsl_7) emsl_7 hG hx (xs := [cv (pvR 196), cv (oI i), cv (oI a), cv (oI b), cv (oI c)]) (ys := []) ⟨by show 1 ≤ _; omega, ⟨⟨pvR 196, l0, rfl, rfl, ok_this⟩, ⟨oI i, l1, rfl, rfl, ok_full32 _⟩, ⟨oI a, l2, rfl, rfl, ok_full32 _⟩, ⟨oI b, l3, rfl, rfl, ok_full32 _⟩, ⟨oI c, l4, rfl, rfl, ok_oI (by omega) (by decide) (by decide)⟩, trivial⟩, trivial, fun c hc => absurd hc List.not_mem_nil⟩ (by omega) (fun o G1 X1 M1 P1 => ?_)
                obtain ⟨o1, o2⟩ := o
                obtain ⟨rfl, -⟩ := po_c P1
                exact hR _ G1 X1 (f_M_0 M1) (fun u v => cF_M0 M1 u v) (fun z => by omega)
              · skip
                by_cases a7 : 99 < c
                · refine mid_L (k := kmsl_8) emsl_8 hG hx (xs := [cv (pvR 196), cv (oI i), cv (oI a), cv (oI b), cv (oI c)]) (ys := []) ⟨by show 1 ≤ _; omega, ⟨⟨pvR 196, l0, rfl, rfl, ok_this⟩, ⟨oI i, l1, rfl, rfl, ok_full32 _⟩, ⟨oI a, l2, rfl, rfl, ok_full32 _⟩, ⟨oI b, l3, rfl, rfl, ok_full32 _⟩, ⟨oI c, l4, rfl, rfl, ok_oI (by omega) (by decide) (by decide)⟩, trivial⟩, trivial, fun c hc => absurd hc List.not_mem_nil⟩ (by omega) (fun o G1 X1 M1 P1 => ?_)
                  obtain ⟨o1, o2⟩ := o
                  obtain ⟨rfl, -⟩ := po_c P1
                  exact hR _ G1 X1 (f_M_0 M1) (fun u v => cF_M0 M1 u v) (fun z => by omega)
                · skip
                  by_cases a8 : cF g 196 17 < 25
                  · refine mid_L (k := kmsl_9) emsl_9 hG hx (xs := [cv (pvR 196), cv (oI i), cv (oI a), cv (oI b), cv (oI c)]) (ys := [cF g 196 17]) ⟨by show 1 ≤ _; omega, ⟨⟨pvR 196, l0, rfl, rfl, ok_this⟩, ⟨oI i, l1, rfl, rfl, ok_oI (by omega) (by decide) (by decide)⟩, ⟨oI a, l2, rfl, rfl, ok_oI (by omega) (by decide) (by decide)⟩, ⟨oI b, l3, rfl, rfl, ok_oI (by omega) (by decide) (by decide)⟩, ⟨oI c, l4, rfl, rfl, ok_oI (by omega) (by decide) (by decide)⟩, trivial⟩, ⟨⟨.inl (g.1 196 17), hc_i el_196 (Nat.le_of_ble_eq_true rfl) rfl, rfl, rfl, ⟨hb.1, show cF g 196 17 ≤ 24 by omega, Or.inl rfl⟩⟩, trivial⟩, fun c hc => absurd hc List.not_mem_nil⟩ (by omega) (fun o G1 X1 M1 P1 => ?_)
                    obtain ⟨o1, o2⟩ := o
                    obtain ⟨rfl, -⟩ := po_c P1
                    exact hR _ G1 X1 (f_M_0 M1) (fun u v => cF_M0 M1 u v) (fun z => by omega)
                  · skip
                    obtain ⟨m, rfl⟩ : ∃ m : Nat, i = m := ⟨i.toNat, by omega⟩
                    have hm : m < 32 := by omega
                    refine t_0 qmy_0 rfl (ld_i l1) ?_
                    refine t_0 qmy_1 rfl rfl ?_
                    refine t_0 qmy_2 rfl (pq_b (by decide)) ?_
                    refine t_3 qmy_4 rfl (ar := ([oI ((m : Int)), oI (0), oI (31)], [])) (pcal_s ⟨Or.inl rfl, rfl, Nat.le_of_ble_eq_true rfl⟩) ⟨by omega, Nat.le_of_ble_eq_true rfl, Nat.le_of_ble_eq_true rfl, rfl⟩ ?_
                    refine in_run ⟨by omega, by omega⟩ ⟨by omega, by omega⟩ ⟨by omega, by omega⟩ rfl rfl rfl (fun t1 => ?_) (fun t1 => absurd t1 (by omega))
                    show t_X d 251 7 lv [oI (1)] g P
                    refine tz_eq qmy_7 (by decide) ⟨by omega, by omega⟩ (fun c2 => absurd c2 (by omega)) (fun c2 => ?_)
                    show t_X d 251 10 lv [] g P
                    refine t_0 qmy_10 rfl (ld_i l2) ?_
                    refine t_0 qmy_11 rfl rfl ?_
                    refine t_0 qmy_12 rfl rfl ?_
                    refine t_3 qmy_13 rfl (ar := ([oI (a), oI (0), oI (3)], [])) (pcal_s ⟨Or.inl rfl, rfl, Nat.le_of_ble_eq_true rfl⟩) ⟨by omega, Nat.le_of_ble_eq_true rfl, Nat.le_of_ble_eq_true rfl, rfl⟩ ?_
                    refine in_run ⟨by omega, by omega⟩ ⟨by omega, by omega⟩ ⟨by omega, by omega⟩ rfl rfl rfl (fun t3 => ?_) (fun t3 => absurd t3 (by omega))
                    show t_X d 251 16 lv [oI (1)] g P
                    refine tz_eq qmy_16 (by decide) ⟨by omega, by omega⟩ (fun c4 => absurd c4 (by omega)) (fun c4 => ?_)
                    show t_X d 251 19 lv [] g P
                    refine t_0 qmy_19 rfl (ld_i l3) ?_
                    refine t_0 qmy_20 rfl rfl ?_
                    refine t_0 qmy_21 rfl rfl ?_
                    refine t_3 qmy_22 rfl (ar := ([oI (b), oI (0), oI (3)], [])) (pcal_s ⟨Or.inl rfl, rfl, Nat.le_of_ble_eq_true rfl⟩) ⟨by omega, Nat.le_of_ble_eq_true rfl, Nat.le_of_ble_eq_true rfl, rfl⟩ ?_
                    refine in_run ⟨by omega, by omega⟩ ⟨by omega, by omega⟩ ⟨by omega, by omega⟩ rfl rfl rfl (fun t5 => ?_) (fun t5 => absurd t5 (by omega))
                    show t_X d 251 25 lv [oI (1)] g P
                    refine tz_eq qmy_25 (by decide) ⟨by omega, by omega⟩ (fun c6 => absurd c6 (by omega)) (fun c6 => ?_)
                    show t_X d 251 28 lv [] g P
                    refine t_0 qmy_28 rfl (ld_i l4) ?_
                    refine t_0 qmy_30 rfl rfl ?_
                    refine t_0 qmy_31 rfl (pq_b (by decide)) ?_
                    refine t_3 qmy_33 rfl (ar := ([oI (c), oI (0), oI (99)], [])) (pcal_s ⟨Or.inl rfl, rfl, Nat.le_of_ble_eq_true rfl⟩) ⟨by omega, Nat.le_of_ble_eq_true rfl, Nat.le_of_ble_eq_true rfl, rfl⟩ ?_
                    refine in_run ⟨by omega, by omega⟩ ⟨by omega, by omega⟩ ⟨by omega, by omega⟩ rfl rfl rfl (fun t7 => ?_) (fun t7 => absurd t7 (by omega))
                    show t_X d 251 36 lv [oI (1)] g P
                    refine tz_eq qmy_36 (by decide) ⟨by omega, by omega⟩ (fun c8 => absurd c8 (by omega)) (fun c8 => ?_)
                    show t_X d 251 39 lv [] g P
                    refine t_0 qmy_39 rfl (ld_a l0) ?_
                    have r9 := gb_f hJ.1 (y := 17) rfl rfl gf_17
                    refine t_0 qmy_40 rfl (pq_gf (y := 17) rfl) ?_
                    refine t_0 qmy_43 rfl (pq_b (by decide)) ?_
                    refine tb_ge qmy_45 (by decide) ⟨by omega, by omega⟩ ⟨by omega, by omega⟩ (fun c10 => ?_) (fun c10 => absurd c10 (by omega))
                    show t_X d 251 50 lv [] g P
                    refine t_0 qmy_50 rfl (ld_a l0) ?_
                    refine t_0 qmy_51 rfl rfl ?_
                    refine tw_c qmy_52 el_196 rfl hJ w_17 gf_17 (by decide) ⟨by omega, by omega⟩ (fun g11 hJ11 e11 => ?_)
                    show t_X d 251 55 lv [] g11 P
                    refine t_0 qmy_55 rfl rfl ?_
                    refine t_2 qmy_56 rfl (w := (px_s1 lv 5 (oI (0)), [])) rfl ?_
                    replace l0 : px_lg (px_s1 lv 5 (oI (0))) 0 = some (pvR 196) := s1_ne (by decide) (fun _ => rfl) l0
                    replace l1 : px_lg (px_s1 lv 5 (oI (0))) 1 = some (oI ((m : Int))) := s1_ne (by decide) (fun _ => rfl) l1
                    replace l2 : px_lg (px_s1 lv 5 (oI (0))) 2 = some (oI (a)) := s1_ne (by decide) (fun _ => rfl) l2
                    replace l3 : px_lg (px_s1 lv 5 (oI (0))) 3 = some (oI (b)) := s1_ne (by decide) (fun _ => rfl) l3
                    replace l4 : px_lg (px_s1 lv 5 (oI (0))) 4 = some (oI (c)) := s1_ne (by decide) (fun _ => rfl) l4
                    have l5 : px_lg (px_s1 lv 5 (oI (0))) 5 = some (oI (0)) := s1_eq
                    generalize px_s1 lv 5 (oI (0)) = lv12 at l0 l1 l2 l3 l4 l5 ⊢
                    show t_X d 251 58 lv12 [] g11 P
                    refine ms_loop (by omega) hJ11.1 (fun hp lv9 u0 u1 u2 u3 u4 => ?_) (fun hp => ?_) 25 0 _ (by omega) (by omega) (fun k hk => absurd hk (by omega)) l0 l1 l2 l3 l4 l5
                    · refine ms_tail (by omega) hd2 hx hJ11 hm (by omega) (by omega) (by omega) (fun g1 J1 X1 b1 b2 => ?_) u0 u1 u2 u3 u4
                      refine hA m hm rfl (by omega) (picM_2 e11 hp) g1 J1.1 X1 J1.2 ?_ (fun j hj => ?_)
                      · exact b1.trans (by rw [e11]; exact pc_at (by omega) (by omega))
                      · rw [b2, bt_st hm hj, show g11.1 196 0 = g.1 196 0 by rw [e11]; exact pr_ne (by decide)]
                    · refine hB (by omega) (fun z => hp (picM_1 e11 z)) g11 hJ11.1 (xL_K _ _ _ hJ11.2 Wmsl.2.2.1 hx) hJ11.2 ?_ ?_
                      · rw [e11]; exact pc_at (by omega) (by omega)
                      · rw [e11]; exact pr_ne (by decide)
end
section
/-! the tie: gone, keep, undo of the reference (printed by wip/e2/t6.py) -/
theorem qmg_0 : xe_look (xc 194) 0 = some (.aload_n 0, 1, 0, 0, 0) := by decide +kernel
theorem qmg_1 : xe_look (xc 194) 1 = some (.iload_n 1, 1, 0, 0, 0) := by decide +kernel
theorem qmg_2 : xe_look (xc 194) 2 = some (.invokevirtual 205, 3, 0, 205, 1130) := by decide +kernel
theorem qmg_5 : xe_look (xc 194) 5 = some (.ifCond .ne 5, 3, 0, 0, 0) := by decide +kernel
theorem qmg_8 : xe_look (xc 194) 8 = some (.iconst 0, 1, 0, 0, 0) := by decide +kernel
theorem qmg_9 : xe_look (xc 194) 9 = some (.ireturn, 1, 0, 0, 0) := by decide +kernel
theorem qmg_10 : xe_look (xc 194) 10 = some (.aload_n 0, 1, 0, 0, 0) := by decide +kernel
theorem qmg_11 : xe_look (xc 194) 11 = some (.aload_n 0, 1, 0, 0, 0) := by decide +kernel
theorem qmg_12 : xe_look (xc 194) 12 = some (.getfield 183, 3, 12, 0, 1158) := by decide +kernel
theorem qmg_15 : xe_look (xc 194) 15 = some (.iconst 1, 1, 0, 0, 0) := by decide +kernel
theorem qmg_16 : xe_look (xc 194) 16 = some (.iload_n 1, 1, 0, 0, 0) := by decide +kernel
theorem qmg_17 : xe_look (xc 194) 17 = some (.ishl, 1, 0, 0, 0) := by decide +kernel
theorem qmg_18 : xe_look (xc 194) 18 = some (.iconst (-1), 1, 0, 0, 0) := by decide +kernel
theorem qmg_19 : xe_look (xc 194) 19 = some (.ixor, 1, 0, 0, 0) := by decide +kernel
theorem qmg_20 : xe_look (xc 194) 20 = some (.iand, 1, 0, 0, 0) := by decide +kernel
theorem qmg_21 : xe_look (xc 194) 21 = some (.putfield 183, 3, 12, 0, 1158) := by decide +kernel
theorem qmk_0 : xe_look (xc 209) 0 = some (.aload_n 0, 1, 0, 0, 0) := by decide +kernel
theorem qmk_1 : xe_look (xc 209) 1 = some (.iconst 1, 1, 0, 0, 0) := by decide +kernel
theorem qmk_2 : xe_look (xc 209) 2 = some (.putfield 516, 3, 12, 72, 1223) := by decide +kernel
theorem qmk_5 : xe_look (xc 209) 5 = some (.aload_n 0, 1, 0, 0, 0) := by decide +kernel
theorem qmk_6 : xe_look (xc 209) 6 = some (.aload_n 0, 1, 0, 0, 0) := by decide +kernel
theorem qmk_7 : xe_look (xc 209) 7 = some (.getfield 183, 3, 12, 0, 1158) := by decide +kernel
theorem qmk_10 : xe_look (xc 209) 10 = some (.putfield 520, 3, 12, 73, 1224) := by decide +kernel
theorem qmk_220 : xe_look (xc 209) 220 = some (.aload_n 0, 1, 0, 0, 0) := by decide +kernel
theorem qmk_221 : xe_look (xc 209) 221 = some (.getfield 183, 3, 12, 0, 1158) := by decide +kernel
theorem qmk_224 : xe_look (xc 209) 224 = some (.invokestatic 532, 3, 0, 171, 1159) := by decide +kernel
theorem qmk_227 : xe_look (xc 209) 227 = some (.ireturn, 1, 0, 0, 0) := by decide +kernel
theorem qmu_0 : xe_look (xc 270) 0 = some (.aload_n 0, 1, 0, 0, 0) := by decide +kernel
theorem qmu_1 : xe_look (xc 270) 1 = some (.getfield 516, 3, 12, 72, 1223) := by decide +kernel
theorem qmu_4 : xe_look (xc 270) 4 = some (.ifCond .ne 5, 3, 0, 0, 0) := by decide +kernel
theorem qmu_7 : xe_look (xc 270) 7 = some (.iconst 0, 1, 0, 0, 0) := by decide +kernel
theorem qmu_8 : xe_look (xc 270) 8 = some (.ireturn, 1, 0, 0, 0) := by decide +kernel
theorem qmu_9 : xe_look (xc 270) 9 = some (.aload_n 0, 1, 0, 0, 0) := by decide +kernel
theorem qmu_10 : xe_look (xc 270) 10 = some (.aload_n 0, 1, 0, 0, 0) := by decide +kernel
theorem qmu_11 : xe_look (xc 270) 11 = some (.getfield 520, 3, 12, 73, 1224) := by decide +kernel
theorem qmu_14 : xe_look (xc 270) 14 = some (.putfield 183, 3, 12, 0, 1158) := by decide +kernel
def kmgn : eK := (194, (2, [(0, 2, (0, 100000, [197])), (1, 0, (0, 31, []))], [], []), (0, []), 309355247977881570806738166741608329489389709622334606320349711713262370330831026167200254656785451212492685073791752505706648893997251960261080790494818497163753817211652127064901028113889262267124396844042565538797065388718416068669075677630666408084907869363416261731922933914638994842320896, [(some (0, (1, 1, [])), [], [])])
theorem emgn : ex_mid eG eKT eDX 4000 kmgn kc_9 24 = true := by decide +kernel
theorem Wmgn : kk_9.2.2.2.1.testBit (cn 196 + 0) = true ∧ kk_9.2.2.2.1 &&& eDX = 0 ∧ kmgn.2.2.2.1 &&& kk_9.2.2.2.1 = kmgn.2.2.2.1 ∧ kmgn.2.2.2.1.testBit (cn 196 + 0) = false := by decide +kernel
set_option maxHeartbeats 4000000 in
theorem mgo_run {d : Nat} (hd : 4 ≤ d) (hd2 : d ≤ 1000000) {g : pH} (hG : g_I eG g) (hx : xL g) {i : Int} (hi : -2147483648 ≤ i ∧ i ≤ 2147483647) {P : Option pv × pH → Prop} (hA : ∀ m : Nat, m < 32 → i = m → bM g m → ∀ g1 : pH, g_I eG g1 → xL g1 → f_M kk_9.2.2.2.1 g g1 → (∀ j, j < 32 → (g1.1 196 0).toBitVec.getLsbD j = ((g.1 196 0).toBitVec.getLsbD j && !decide (j = m))) → P (some (oI 1), g1)) (hR : ¬ toM g i → P (some (oI 0), g)) {lv : List (Nat × pv)} (l0 : px_lg lv 0 = some (pvR 196)) (l1 : px_lg lv 1 = some (oI i)) : t_X d 194 0 lv [] g P := by
  have hJ : J_ kk_9.2.2.2.1 g g := J_rf hG
  have w_0 := Wmgn.1
  refine t_0 qmg_0 rfl (ld_a l0) ?_
  refine t_0 qmg_1 rfl (ld_i l1) ?_
  refine t_3 qmg_2 rfl (ar := ([pvR 196, oI (i)], [])) (pcal_v1 rfl rfl el_196) ⟨by omega, Nat.le_of_ble_eq_true rfl, Nat.le_of_ble_eq_true rfl, rfl⟩ ?_
  refine it_run (by omega) (by omega) rfl rfl (fun m hm e1 c0 => ?_) (fun c0 => ?_)
  · subst e1
    show t_X d 194 5 lv [oI (1)] g P
    refine tz_ne qmg_5 (by decide) ⟨by omega, by omega⟩ (fun c1 => ?_) (fun c1 => absurd c1 (by omega))
    show t_X d 194 10 lv [] g P
    refine t_0 qmg_10 rfl (ld_a l0) ?_
    refine t_0 qmg_11 rfl (ld_a l0) ?_
    have r2 := fF_b g 0
    refine t_0 qmg_12 rfl (pq_gf (y := 0) rfl) ?_
    refine t_0 qmg_15 rfl rfl ?_
    refine t_0 qmg_16 rfl (ld_i l1) ?_
    refine t_0 qmg_17 rfl rfl ?_
    refine t_0 qmg_18 rfl rfl ?_
    refine t_0 qmg_19 rfl rfl ?_
    refine t_0 qmg_20 rfl rfl ?_
    refine tw_v qmg_21 el_196 rfl hJ w_0 gF_0 (fun g3 hJ3 e3 => ?_)
    show t_X d 194 24 lv [] g3 P
    refine mid_L (k := kmgn) emgn hJ3.1 (xL_K _ _ _ hJ3.2 Wmgn.2.1 hx) (xs := [cv (pvR 196), cv (oI (m : Int))]) (ys := []) ⟨by show 2 ≤ _; omega, ⟨⟨pvR 196, l0, rfl, rfl, ok_this⟩, ⟨oI (m : Int), l1, rfl, rfl, ok_oI (by omega) (by decide) (by decide)⟩, trivial⟩, trivial, fun c hc => absurd hc List.not_mem_nil⟩ (by omega) (fun o G1 X1 M1 P1 => ?_)
    obtain ⟨o1, o2⟩ := o
    obtain ⟨rfl, -⟩ := po_c P1
    refine hA m hm rfl c0 o2 G1 X1 (J_up Wmgn.2.2.1 hJ3 ⟨G1, M1⟩).2 (fun j hj => ?_)
    rw [(M1.1 196 0 Wmgn.2.2.2).1, e3]
    rw [pr_at]
    have z9 := bt_clr (b := Int32.ofInt (fF g 0)) hm hj
    exact z9.trans (by rw [show Int32.ofInt (fF g 0) = g.1 196 0 from Int32.ofInt_toInt _])
  · show t_X d 194 5 lv [oI (0)] g P
    refine tz_ne qmg_5 (by decide) ⟨by omega, by omega⟩ (fun c4 => absurd c4 (by omega)) (fun c4 => ?_)
    show t_X d 194 8 lv [] g P
    refine t_0 qmg_8 rfl rfl ?_
    refine t_5 qmg_9 rfl rfl ?_
    exact hR c0
def kmkp : eK := (209, (2, [(0, 2, (0, 100000, [197]))], [], []), (0, []), 5617105280936138000572835376528041683973253335110036219854293564495235398734541299984828903202842587556728369435903046194520496929080216696454852033206311413999609182816544369053569732117469337126868175132534668965029929327151435549112987805967560293575010779351726123932054894363536969521253847114681679872, [])
def smkp : eCc := (220, (2, [(0, 2, (0, 100000, [197]))], [], []), (-1, []))
theorem emkp : ex_to eG eKT eDX 4000 kmkp kc_58 smkp 13 = true := by decide +kernel
def kmun : eK := (270, (2, [(0, 2, (0, 100000, [197]))], [], []), (0, []), 638551955282973539741075423804095168246518898610680698471161402354096631821941426022252536102532304306350725332147878625714992208507849704188250175085630906547905246244425344298989429437888025042062628537858029036419071770957205625177382101874187291202981839868922357366518512871464268430573568, [(some (0, (1, 1, [])), [], [])])
theorem emun : ex_mid eG eKT eDX 4000 kmun kc_60 17 = true := by decide +kernel
theorem Wmkp : kk_58.2.2.2.1.testBit (cn 196 + 72) = true ∧ kk_58.2.2.2.1.testBit (cn 196 + 73) = true ∧ kk_58.2.2.2.1 &&& eDX = 0 ∧ kmkp.2.2.2.1 &&& kk_58.2.2.2.1 = kmkp.2.2.2.1 ∧ kmkp.2.2.2.1.testBit (cn 196 + 72) = false ∧ kmkp.2.2.2.1.testBit (cn 196 + 73) = false ∧ kk_58.2.2.2.1.testBit (cn 196 + 0) = false := by decide +kernel
theorem Wmun : kk_60.2.2.2.1.testBit (cn 196 + 0) = true ∧ kk_60.2.2.2.1 &&& eDX = 0 ∧ kmun.2.2.2.1 &&& kk_60.2.2.2.1 = kmun.2.2.2.1 ∧ kmun.2.2.2.1.testBit (cn 196 + 0) = false := by decide +kernel
theorem gz_72 : eG (cn 196 + 72) = (0, 1, []) := by decide +kernel
theorem gF_73 : eG (cn 196 + 73) = (-2147483648, 2147483647, []) := by decide +kernel
set_option maxHeartbeats 4000000 in
theorem mk_run {d : Nat} (hd : 8 ≤ d) (hd2 : d ≤ 1000000) {g : pH} (hG : g_I eG g) (hx : xL g) {P : Option pv × pH → Prop} (hP : ∀ g1 : pH, g_I eG g1 → xL g1 → f_M kk_58.2.2.2.1 g g1 → g1.1 196 0 = g.1 196 0 → cF g1 196 72 = 1 → g1.1 196 73 = g.1 196 0 → P (some (oI (ctl (bz (g.1 196 0)) 32)), g1)) {lv : List (Nat × pv)} (l0 : px_lg lv 0 = some (pvR 196)) : t_X d 209 0 lv [] g P := by
  have hJ : J_ kk_58.2.2.2.1 g g := J_rf hG
  have w_72 := Wmkp.1
  have w_73 := Wmkp.2.1
  refine t_0 qmk_0 rfl (ld_a l0) ?_
  refine t_0 qmk_1 rfl rfl ?_
  refine tw_z qmk_2 el_196 rfl hJ w_72 gz_72 (by decide) ⟨by omega, by omega⟩ (by omega) (fun g1 hJ1 e1 => ?_)
  show t_X d 209 5 lv [] g1 P
  refine t_0 qmk_5 rfl (ld_a l0) ?_
  refine t_0 qmk_6 rfl (ld_a l0) ?_
  have r2 := fF_b g1 0
  refine t_0 qmk_7 rfl (pq_gf (y := 0) rfl) ?_
  refine tw_c qmk_10 el_196 rfl hJ1 w_73 gF_73 (by decide) ⟨by omega, by omega⟩ (fun g3 hJ3 e3 => ?_)
  show t_X d 209 13 lv [] g3 P
  refine to_L (k := kmkp) emkp rfl hJ3.1 (xL_K _ _ _ hJ3.2 Wmkp.2.2.1 hx) (xs := [cv (pvR 196)]) (ys := []) ⟨by show 2 ≤ _; omega, ⟨⟨pvR 196, l0, rfl, rfl, ok_this⟩, trivial⟩, trivial, fun c hc => absurd hc List.not_mem_nil⟩ (by omega) (fun lv2 g9 xs2 ys2 G2 X2 M2 P2 => ?_)
  have hJ9 := J_up Wmkp.2.2.2.1 hJ3 ⟨G2, M2⟩
  clear l0
  obtain ⟨-, L2, -, -⟩ := P2
  obtain ⟨l0, -⟩ := lv_r rfl L2
  have k1 : g9.1 196 0 = g.1 196 0 := (hJ9.2.1 196 0 Wmkp.2.2.2.2.2.2).1
  have k2 : cF g9 196 72 = 1 := by rw [cF_M M2 Wmkp.2.2.2.2.1, e3, pc_ne (by decide), e1]; exact pc_at (by decide) (by decide)
  have k3 : g9.1 196 73 = g.1 196 0 := by
    rw [(M2.1 196 73 Wmkp.2.2.2.2.2.1).1, e3]
    rw [pr_at]
    show Int32.ofInt (g1.1 196 0).toInt = _
    rw [Int32.ofInt_toInt, e1]
    exact pr_ne (by decide)
  show t_X d 209 220 lv2 [] g9 P
  refine t_0 qmk_220 rfl (ld_a l0) ?_
  have r4 := fF_b g9 0
  refine t_0 qmk_221 rfl (pq_gf (y := 0) rfl) ?_
  refine t_3 qmk_224 rfl (ar := ([oI (fF g9 0)], [])) (pcal_s ⟨Or.inl rfl, rfl, Nat.le_of_ble_eq_true rfl⟩) ⟨by omega, Nat.le_of_ble_eq_true rfl, Nat.le_of_ble_eq_true rfl, rfl⟩ ?_
  refine bi_run ?_ rfl
  show t_X d 209 227 lv2 [oI (ctl (bz (Int32.ofInt (fF g9 0))) 32)] g9 P
  refine t_5 qmk_227 rfl rfl ?_
  rw [show Int32.ofInt (fF g9 0) = g9.1 196 0 from Int32.ofInt_toInt _, k1]
  exact hP g9 hJ9.1 X2 hJ9.2 k1 k2 k3
set_option maxHeartbeats 4000000 in
theorem mu_run {d : Nat} (hd : 8 ≤ d) (hd2 : d ≤ 1000000) {g : pH} (hG : g_I eG g) (hx : xL g) {P : Option pv × pH → Prop} (hA : cF g 196 72 ≠ 0 → ∀ g1 : pH, g_I eG g1 → xL g1 → f_M kk_60.2.2.2.1 g g1 → g1.1 196 0 = g.1 196 73 → P (some (oI 1), g1)) (hR : cF g 196 72 = 0 → P (some (oI 0), g)) {lv : List (Nat × pv)} (l0 : px_lg lv 0 = some (pvR 196)) : t_X d 270 0 lv [] g P := by
  have hJ : J_ kk_60.2.2.2.1 g g := J_rf hG
  have w_0 := Wmun.1
  refine t_0 qmu_0 rfl (ld_a l0) ?_
  have r1 : 0 ≤ fF g 72 ∧ fF g 72 ≤ 1 := cb_z hJ.1 el_196 (Nat.le_of_ble_eq_true rfl) rfl gz_72
  refine t_0 qmu_1 rfl (pq_cz (y := 72) el_196 rfl) ?_
  show t_X d 270 4 lv [oI (fF g 72)] g P
  refine tz_ne qmu_4 (by decide) ⟨by omega, by omega⟩ (fun c2 => ?_) (fun c2 => ?_)
  · show t_X d 270 9 lv [] g P
    refine t_0 qmu_9 rfl (ld_a l0) ?_
    refine t_0 qmu_10 rfl (ld_a l0) ?_
    have r3 := fF_b g 73
    refine t_0 qmu_11 rfl (pq_gf (y := 73) rfl) ?_
    refine tw_c qmu_14 el_196 rfl hJ w_0 gF_0 (by decide) ⟨by omega, by omega⟩ (fun g4 hJ4 e4 => ?_)
    show t_X d 270 17 lv [] g4 P
    refine mid_L (k := kmun) emun hJ4.1 (xL_K _ _ _ hJ4.2 Wmun.2.1 hx) (xs := [cv (pvR 196)]) (ys := []) ⟨by show 2 ≤ _; omega, ⟨⟨pvR 196, l0, rfl, rfl, ok_this⟩, trivial⟩, trivial, fun c hc => absurd hc List.not_mem_nil⟩ (by omega) (fun o G1 X1 M1 P1 => ?_)
    obtain ⟨o1, o2⟩ := o
    obtain ⟨rfl, -⟩ := po_c P1
    refine hA (fun z => by have z2 : fF g 72 = 0 := z; omega) o2 G1 X1 (J_up Wmun.2.2.1 hJ4 ⟨G1, M1⟩).2 ?_
    rw [(M1.1 196 0 Wmun.2.2.2).1, e4]
    rw [pr_at]
    exact Int32.ofInt_toInt _
  · show t_X d 270 7 lv [] g P
    refine t_0 qmu_7 rfl rfl ?_
    refine t_5 qmu_8 rfl rfl ?_
    exact hR (by show fF g 72 = 0; omega)
end
section
/-! the tie: the tape behind tray, law, spilt, says of the reference (printed by wip/e2/t7.py out of parts 87, 89, 94) -/
set_option maxHeartbeats 4000000 in
theorem ty9_e {d : Nat} (hd : 1 ≤ d) {h0 : pH} {P : Option pv × pH → Prop} (hP : ∀ (g1 : pH) (z : Int), J_ Wt h0 g1 → fF g1 17 = 0 → P (some (oI z), g1)) {g : pH} (hJ : J_ Wt h0 g) {x : Int} (hx : x = 0 ∨ (x = 1 ∧ tJ g)) {lv : List (Nat × pv)} (l0 : px_lg lv 0 = some (pvR 196)) (l2 : px_lg lv 2 = some (oI x)) : t_X d 264 92 lv [] g P := by
  obtain ⟨w_17, w_18, w_19, w_20, w_21, w_24, w_25, w_26⟩ := Wt_f
  obtain ⟨w_a212, w_a213, w_a214, w_a215, -⟩ := Wt_a
  rcases hx with rfl | ⟨rfl, hT⟩
  · refine t_0 qty_92 rfl (ld_a l0) ?_
    refine t_0 qty_93 rfl rfl ?_
    refine tw_f qty_94 rfl hJ w_17 gf_17 (by decide) ⟨by omega, by omega⟩ (fun g1 hJ1 v1 f1 a1 => ?_)
    replace a1 := fA_2 a1
    have q1_18 := f1 18 (by decide)
    have q1_19 := f1 19 (by decide)
    have q1_25 := f1 25 (by decide)
    have q1_26 := f1 26 (by decide)
    show t_X d 264 97 lv [] g1 P
    refine t_0 qty_97 rfl (ld_i l2) ?_
    refine tz_ne qty_98 (by decide) ⟨by omega, by omega⟩ (fun c2 => absurd c2 (by omega)) (fun c2 => ?_)
    show t_X d 264 101 lv [] g1 P
    refine t_0 qty_101 rfl (ld_a l0) ?_
    have r3 := fF_b g1 20
    refine t_0 qty_102 rfl (pq_gf (y := 20) rfl) ?_
    refine t_5 qty_105 rfl rfl ?_
    exact hP _ _ hJ1 v1
  · have hT1 := hT.1
    refine t_0 qty_92 rfl (ld_a l0) ?_
    refine t_0 qty_93 rfl rfl ?_
    refine tw_f qty_94 rfl hJ w_17 gf_17 (by decide) ⟨by omega, by omega⟩ (fun g1 hJ1 v1 f1 a1 => ?_)
    replace a1 := fA_2 a1
    have q1_18 := f1 18 (by decide)
    have q1_19 := f1 19 (by decide)
    have q1_25 := f1 25 (by decide)
    have q1_26 := f1 26 (by decide)
    show t_X d 264 97 lv [] g1 P
    refine t_0 qty_97 rfl (ld_i l2) ?_
    refine tz_ne qty_98 (by decide) ⟨by omega, by omega⟩ (fun c2 => ?_) (fun c2 => absurd c2 (by omega))
    show t_X d 264 106 lv [] g1 P
    refine t_0 qty_106 rfl (ld_a l0) ?_
    refine t_0 qty_107 rfl (ld_a l0) ?_
    have r3 := fF_b g1 25
    refine t_0 qty_108 rfl (pq_gf (y := 25) rfl) ?_
    refine tw_f qty_111 rfl hJ1 w_24 gf_24 (by decide) ⟨by omega, by omega⟩ (fun g4 hJ4 v4 f4 a4 => ?_)
    replace a4 := fA_2 a4
    have q4_18 := f4 18 (by decide)
    have q4_19 := f4 19 (by decide)
    have q4_25 := f4 25 (by decide)
    have q4_26 := f4 26 (by decide)
    show t_X d 264 114 lv [] g4 P
    refine t_0 qty_114 rfl (ld_a l0) ?_
    refine t_0 qty_115 rfl (ar_28 hJ4.1) ?_
    refine t_0 qty_118 rfl (ld_a l0) ?_
    refine t_0 qty_119 rfl (ar_27 hJ4.1) ?_
    refine t_0 qty_122 rfl (ld_a l0) ?_
    have r5 := fF_b g4 25
    refine t_0 qty_123 rfl (pq_gf (y := 25) rfl) ?_
    refine t_3 qty_126 rfl (ar := ([pvR 213, pvR 212, oI (fF g4 25)], [])) (pcal_s ⟨Or.inl rfl, rfl, Nat.le_of_ble_eq_true rfl⟩) ⟨by omega, Nat.le_of_ble_eq_true rfl, Nat.le_of_ble_eq_true rfl, rfl⟩ ?_
    refine t_0 qcp_0 rfl rfl ?_
    refine t_2 qcp_1 rfl (w := (px_s1 _ 3 (oI 0), [])) rfl ?_
    refine cy_loop (h := g4) (n := fF g4 25) (by omega) (fun g6 hJ6 f6 => ?_) 60 0 _ _ (by omega) (by omega) (by omega) hJ4 ?_ (fun _ => rfl) (s1_ne (by decide) (fun _ => rfl) rfl) (s1_ne (by decide) (fun _ => rfl) rfl) (s1_ne (by decide) (fun _ => rfl) rfl) s1_eq
    · show t_X d 264 129 lv [] g6 P
      refine t_0 qty_129 rfl (ld_a l0) ?_
      have r7 := fF_b g6 25
      refine t_0 qty_130 rfl (pq_gf (y := 25) rfl) ?_
      refine t_5 qty_133 rfl rfl ?_
      exact hP _ _ hJ6 (by rw [f6 17, f4 17 (by decide)]; exact v1)
    · intro j hj
      rw [a4, a1]
      exact hT.2.1 j (by omega)
theorem ty9_z {d : Nat} (hd : 1 ≤ d) {h0 : pH} {P : Option pv × pH → Prop} (hP : ∀ (g1 : pH) (z : Int), J_ Wt h0 g1 → fF g1 17 = 0 → P (some (oI z), g1)) {g : pH} (hJ : J_ Wt h0 g) {lv : List (Nat × pv)} (l0 : px_lg lv 0 = some (pvR 196)) (l2 : px_lg lv 2 = some (oI 0)) : t_X d 264 45 lv [] g P := by
  refine t_0 qty_45 rfl (ld_i l2) ?_
  refine tz_eq qty_46 (by decide) ⟨by omega, by omega⟩ (fun c1 => ?_) (fun c1 => absurd c1 (by omega))
  show t_X d 264 92 lv [] g P
  exact ty9_e hd hP hJ (Or.inl rfl) l0 l2
set_option maxHeartbeats 4000000 in
theorem ty9_l {d : Nat} (hd : 6 ≤ d) {h0 : pH} {N : Int} (hN : 0 ≤ N ∧ N ≤ 240) {P : Option pv × pH → Prop} (hP : ∀ (g1 : pH) (z : Int), J_ Wt h0 g1 → fF g1 17 = 0 → P (some (oI z), g1)) : ∀ (m : Nat) (g : pH) (lv : List (Nat × pv)), N + 1 - fF g 18 ≤ m → 0 ≤ fF g 18 ∧ fF g 18 ≤ N ∧ fF g 19 = N → tJ g → J_ Wt h0 g → px_lg lv 0 = some (pvR 196) → px_lg lv 2 = some (oI 1) → t_X d 264 45 lv [] g P := by
  obtain ⟨w_17, w_18, w_19, w_20, w_21, w_24, w_25, w_26⟩ := Wt_f
  obtain ⟨w_a212, w_a213, w_a214, w_a215, -⟩ := Wt_a
  intro m
  induction m with
  | zero =>
    intro g lv hm hp hT hJ l0 l2
    omega
  | succ m ih =>
    intro g lv hm hp hT hJ l0 l2
    have hT1 := hT.1
    refine t_0 qty_45 rfl (ld_i l2) ?_
    refine tz_eq qty_46 (by decide) ⟨by omega, by omega⟩ (fun c1 => absurd c1 (by omega)) (fun c1 => ?_)
    show t_X d 264 49 lv [] g P
    refine t_0 qty_49 rfl (ld_a l0) ?_
    have r2 := fF_b g 18
    refine t_0 qty_50 rfl (pq_gf (y := 18) rfl) ?_
    refine t_0 qty_53 rfl (ld_a l0) ?_
    have r3 := fF_b g 19
    refine t_0 qty_54 rfl (pq_gf (y := 19) rfl) ?_
    refine tb_lt qty_57 (by decide) ⟨by omega, by omega⟩ ⟨by omega, by omega⟩ (fun c4 => ?_) (fun c4 => ?_)
    · show t_X d 264 67 lv [] g P
      refine t_0 qty_67 rfl (ld_a l0) ?_
      refine t_0 qty_68 rfl (pq_b (by decide)) ?_
      refine t_3 qty_70 rfl (ar := ([pvR 196, oI (44)], [])) (pcal_v1 rfl rfl el_196) ⟨by omega, Nat.le_of_ble_eq_true rfl, Nat.le_of_ble_eq_true rfl, rfl⟩ ?_
      refine tk_run (by omega) hJ w_18 w_20 (by omega) (by omega) (by decide) (fun g5 p5 u5 hJ5 f5 a5 => ?_) (fun g50005 hJ50005 => ?_) rfl rfl
      · have q5_19 := f5 19 (by decide)
        have q5_25 := f5 25 (by decide)
        have q5_26 := f5 26 (by decide)
        have T5 : tJ g5 := by
          unfold tJ
          rw [q5_25, q5_26, a5]
          exact hT
        show t_X d 264 73 lv [oI (1)] g5 P
        refine tz_eq qty_73 (by decide) ⟨by omega, by omega⟩ (fun c6 => absurd c6 (by omega)) (fun c6 => ?_)
        show t_X d 264 76 lv [] g5 P
        refine t_0 qty_76 rfl (ld_a l0) ?_
        refine t_3 qty_77 rfl (ar := ([pvR 196], [])) (pcal_v0 rfl rfl el_196) ⟨by omega, Nat.le_of_ble_eq_true rfl, Nat.le_of_ble_eq_true rfl, rfl⟩ ?_
        refine ri_o (by omega) (h := g5) (fun g7 T7 p7 u7 x7 hJ7 => ?_) (fun g50007 hJ50007 => ?_) 241 _ _ (by omega) (by omega) T5 hJ5 rfl
        · show t_X d 264 80 lv [oI (1)] g7 P
          refine tz_eq qty_80 (by decide) ⟨by omega, by omega⟩ (fun c8 => absurd c8 (by omega)) (fun c8 => ?_)
          show t_X d 264 83 lv [] g7 P
          refine t_0 qty_83 rfl rfl ?_
          refine t_1 qty_84 rfl (pb_goto (pc := 84) (by decide)) ?_
          show t_X d 264 88 lv [oI (1)] g7 P
          refine t_2 qty_88 rfl (w := (px_s1 lv 2 (oI (1)), [])) rfl ?_
          replace l0 : px_lg (px_s1 lv 2 (oI (1))) 0 = some (pvR 196) := s1_ne (by decide) (fun _ => rfl) l0
          have l2 : px_lg (px_s1 lv 2 (oI (1))) 2 = some (oI (1)) := s1_eq
          generalize px_s1 lv 2 (oI (1)) = lv9 at l0 l2 ⊢
          show t_X d 264 89 lv9 [] g7 P
          refine t_1 qty_89 rfl (pb_goto (pc := 89) (by decide)) ?_
          show t_X d 264 45 lv9 [] g7 P
          exact ih _ _ (by omega) (by omega) T7 hJ7 l0 l2
        · show t_X d 264 80 lv [oI (0)] g50007 P
          refine tz_eq qty_80 (by decide) ⟨by omega, by omega⟩ (fun c10 => ?_) (fun c10 => absurd c10 (by omega))
          show t_X d 264 87 lv [] g50007 P
          refine t_0 qty_87 rfl rfl ?_
          refine t_2 qty_88 rfl (w := (px_s1 lv 2 (oI (0)), [])) rfl ?_
          replace l0 : px_lg (px_s1 lv 2 (oI (0))) 0 = some (pvR 196) := s1_ne (by decide) (fun _ => rfl) l0
          have l2 : px_lg (px_s1 lv 2 (oI (0))) 2 = some (oI (0)) := s1_eq
          generalize px_s1 lv 2 (oI (0)) = lv11 at l0 l2 ⊢
          show t_X d 264 89 lv11 [] g50007 P
          refine t_1 qty_89 rfl (pb_goto (pc := 89) (by decide)) ?_
          show t_X d 264 45 lv11 [] g50007 P
          exact ty9_z (by omega) hP hJ50007 l0 l2
      · show t_X d 264 73 lv [oI (0)] g50005 P
        refine tz_eq qty_73 (by decide) ⟨by omega, by omega⟩ (fun c12 => ?_) (fun c12 => absurd c12 (by omega))
        show t_X d 264 87 lv [] g50005 P
        refine t_0 qty_87 rfl rfl ?_
        refine t_2 qty_88 rfl (w := (px_s1 lv 2 (oI (0)), [])) rfl ?_
        replace l0 : px_lg (px_s1 lv 2 (oI (0))) 0 = some (pvR 196) := s1_ne (by decide) (fun _ => rfl) l0
        have l2 : px_lg (px_s1 lv 2 (oI (0))) 2 = some (oI (0)) := s1_eq
        generalize px_s1 lv 2 (oI (0)) = lv13 at l0 l2 ⊢
        show t_X d 264 89 lv13 [] g50005 P
        refine t_1 qty_89 rfl (pb_goto (pc := 89) (by decide)) ?_
        show t_X d 264 45 lv13 [] g50005 P
        exact ty9_z (by omega) hP hJ50005 l0 l2
    · show t_X d 264 60 lv [] g P
      refine t_0 qty_60 rfl (ld_a l0) ?_
      have r14 := fF_b g 26
      refine t_0 qty_61 rfl (pq_gf (y := 26) rfl) ?_
      refine tz_le qty_64 (by decide) ⟨by omega, by omega⟩ (fun c15 => ?_) (fun c15 => ?_)
      · show t_X d 264 92 lv [] g P
        exact ty9_e (by omega) hP hJ (Or.inr ⟨rfl, hT⟩) l0 l2
      · show t_X d 264 67 lv [] g P
        refine t_0 qty_67 rfl (ld_a l0) ?_
        refine t_0 qty_68 rfl (pq_b (by decide)) ?_
        refine t_3 qty_70 rfl (ar := ([pvR 196, oI (44)], [])) (pcal_v1 rfl rfl el_196) ⟨by omega, Nat.le_of_ble_eq_true rfl, Nat.le_of_ble_eq_true rfl, rfl⟩ ?_
        refine tk_run (by omega) hJ w_18 w_20 (by omega) (by omega) (by decide) (fun g16 p16 u16 hJ16 f16 a16 => ?_) (fun g50016 hJ50016 => ?_) rfl rfl
        · have q16_19 := f16 19 (by decide)
          have q16_25 := f16 25 (by decide)
          have q16_26 := f16 26 (by decide)
          have T16 : tJ g16 := by
            unfold tJ
            rw [q16_25, q16_26, a16]
            exact hT
          show t_X d 264 73 lv [oI (1)] g16 P
          refine tz_eq qty_73 (by decide) ⟨by omega, by omega⟩ (fun c17 => absurd c17 (by omega)) (fun c17 => ?_)
          show t_X d 264 76 lv [] g16 P
          refine t_0 qty_76 rfl (ld_a l0) ?_
          refine t_3 qty_77 rfl (ar := ([pvR 196], [])) (pcal_v0 rfl rfl el_196) ⟨by omega, Nat.le_of_ble_eq_true rfl, Nat.le_of_ble_eq_true rfl, rfl⟩ ?_
          refine ri_o (by omega) (h := g16) (fun g18 T18 p18 u18 x18 hJ18 => ?_) (fun g50018 hJ50018 => ?_) 241 _ _ (by omega) (by omega) T16 hJ16 rfl
          · show t_X d 264 80 lv [oI (1)] g18 P
            refine tz_eq qty_80 (by decide) ⟨by omega, by omega⟩ (fun c19 => absurd c19 (by omega)) (fun c19 => ?_)
            show t_X d 264 83 lv [] g18 P
            refine t_0 qty_83 rfl rfl ?_
            refine t_1 qty_84 rfl (pb_goto (pc := 84) (by decide)) ?_
            show t_X d 264 88 lv [oI (1)] g18 P
            refine t_2 qty_88 rfl (w := (px_s1 lv 2 (oI (1)), [])) rfl ?_
            replace l0 : px_lg (px_s1 lv 2 (oI (1))) 0 = some (pvR 196) := s1_ne (by decide) (fun _ => rfl) l0
            have l2 : px_lg (px_s1 lv 2 (oI (1))) 2 = some (oI (1)) := s1_eq
            generalize px_s1 lv 2 (oI (1)) = lv20 at l0 l2 ⊢
            show t_X d 264 89 lv20 [] g18 P
            refine t_1 qty_89 rfl (pb_goto (pc := 89) (by decide)) ?_
            show t_X d 264 45 lv20 [] g18 P
            exact ih _ _ (by omega) (by omega) T18 hJ18 l0 l2
          · show t_X d 264 80 lv [oI (0)] g50018 P
            refine tz_eq qty_80 (by decide) ⟨by omega, by omega⟩ (fun c21 => ?_) (fun c21 => absurd c21 (by omega))
            show t_X d 264 87 lv [] g50018 P
            refine t_0 qty_87 rfl rfl ?_
            refine t_2 qty_88 rfl (w := (px_s1 lv 2 (oI (0)), [])) rfl ?_
            replace l0 : px_lg (px_s1 lv 2 (oI (0))) 0 = some (pvR 196) := s1_ne (by decide) (fun _ => rfl) l0
            have l2 : px_lg (px_s1 lv 2 (oI (0))) 2 = some (oI (0)) := s1_eq
            generalize px_s1 lv 2 (oI (0)) = lv22 at l0 l2 ⊢
            show t_X d 264 89 lv22 [] g50018 P
            refine t_1 qty_89 rfl (pb_goto (pc := 89) (by decide)) ?_
            show t_X d 264 45 lv22 [] g50018 P
            exact ty9_z (by omega) hP hJ50018 l0 l2
        · show t_X d 264 73 lv [oI (0)] g50016 P
          refine tz_eq qty_73 (by decide) ⟨by omega, by omega⟩ (fun c23 => ?_) (fun c23 => absurd c23 (by omega))
          show t_X d 264 87 lv [] g50016 P
          refine t_0 qty_87 rfl rfl ?_
          refine t_2 qty_88 rfl (w := (px_s1 lv 2 (oI (0)), [])) rfl ?_
          replace l0 : px_lg (px_s1 lv 2 (oI (0))) 0 = some (pvR 196) := s1_ne (by decide) (fun _ => rfl) l0
          have l2 : px_lg (px_s1 lv 2 (oI (0))) 2 = some (oI (0)) := s1_eq
          generalize px_s1 lv 2 (oI (0)) = lv24 at l0 l2 ⊢
          show t_X d 264 89 lv24 [] g50016 P
          refine t_1 qty_89 rfl (pb_goto (pc := 89) (by decide)) ?_
          show t_X d 264 45 lv24 [] g50016 P
          exact ty9_z (by omega) hP hJ50016 l0 l2
set_option maxHeartbeats 8000000 in
theorem ty9_run {d : Nat} (hd : 8 ≤ d) {g : pH} (hG : g_I eG g) {n : Int} (hn : -2147483648 ≤ n ∧ n ≤ 2147483647) {P : Option pv × pH → Prop} (hA : (1 ≤ n ∧ n ≤ 120) ∧ n ≤ fF g 17 → ∀ (g1 : pH) (z : Int), J_ Wt g g1 → fF g1 17 = 0 → P (some (oI z), g1)) (hR : ¬ ((1 ≤ n ∧ n ≤ 120) ∧ n ≤ fF g 17) → P (some (oI (-1)), g)) {lv : List (Nat × pv)} (l0 : px_lg lv 0 = some (pvR 196)) (l1 : px_lg lv 1 = some (oI n)) : t_X d 264 0 lv [] g P := by
  obtain ⟨w_17, w_18, w_19, w_20, w_21, w_24, w_25, w_26⟩ := Wt_f
  obtain ⟨w_a212, w_a213, w_a214, w_a215, -⟩ := Wt_a
  have hJ0 : J_ Wt g g := J_rf hG
  refine t_0 qty_0 rfl (ld_i l1) ?_
  refine t_0 qty_1 rfl rfl ?_
  refine t_0 qty_2 rfl (pq_b (by decide)) ?_
  refine t_3 qty_4 rfl (ar := ([oI (n), oI (1), oI (120)], [])) (pcal_s ⟨Or.inl rfl, rfl, Nat.le_of_ble_eq_true rfl⟩) ⟨by omega, Nat.le_of_ble_eq_true rfl, Nat.le_of_ble_eq_true rfl, rfl⟩ ?_
  refine in_run ⟨by omega, by omega⟩ ⟨by omega, by omega⟩ ⟨by omega, by omega⟩ rfl rfl rfl (fun t1 => ?_) (fun t1 => ?_)
  · show t_X d 264 7 lv [oI (1)] g P
    refine tz_eq qty_7 (by decide) ⟨by omega, by omega⟩ (fun c2 => absurd c2 (by omega)) (fun c2 => ?_)
    show t_X d 264 10 lv [] g P
    refine t_0 qty_10 rfl (ld_i l1) ?_
    refine t_0 qty_11 rfl (ld_a l0) ?_
    have r3 := gb_f hJ0.1 (y := 17) rfl rfl gf_17
    refine t_0 qty_12 rfl (pq_gf (y := 17) rfl) ?_
    refine tb_le qty_15 (by decide) ⟨by omega, by omega⟩ ⟨by omega, by omega⟩ (fun c4 => ?_) (fun c4 => ?_)
    · show t_X d 264 20 lv [] g P
      refine t_0 qty_20 rfl (ld_a l0) ?_
      refine t_0 qty_21 rfl rfl ?_
      refine tw_f qty_22 rfl hJ0 w_18 gf_18 (by decide) ⟨by omega, by omega⟩ (fun g5 hJ5 v5 f5 a5 => ?_)
      replace a5 := fA_2 a5
      have q5_19 := f5 19 (by decide)
      have q5_25 := f5 25 (by decide)
      have q5_26 := f5 26 (by decide)
      show t_X d 264 25 lv [] g5 P
      refine t_0 qty_25 rfl (ld_a l0) ?_
      refine t_0 qty_26 rfl (ld_i l1) ?_
      refine tw_f qty_27 rfl hJ5 w_19 gf_19 (by decide) ⟨by omega, by omega⟩ (fun g6 hJ6 v6 f6 a6 => ?_)
      replace a6 := fA_2 a6
      have q6_18 := f6 18 (by decide)
      have q6_25 := f6 25 (by decide)
      have q6_26 := f6 26 (by decide)
      show t_X d 264 30 lv [] g6 P
      refine t_0 qty_30 rfl (ld_a l0) ?_
      refine t_0 qty_31 rfl rfl ?_
      refine tw_f qty_32 rfl hJ6 w_25 gf_25 (by decide) ⟨by omega, by omega⟩ (fun g7 hJ7 v7 f7 a7 => ?_)
      replace a7 := fA_2 a7
      have q7_18 := f7 18 (by decide)
      have q7_19 := f7 19 (by decide)
      have q7_26 := f7 26 (by decide)
      show t_X d 264 35 lv [] g7 P
      refine t_0 qty_35 rfl (ld_a l0) ?_
      refine t_0 qty_36 rfl rfl ?_
      refine tw_f qty_37 rfl hJ7 w_26 gf_26 (by decide) ⟨by omega, by omega⟩ (fun g8 hJ8 v8 f8 a8 => ?_)
      replace a8 := fA_2 a8
      have q8_18 := f8 18 (by decide)
      have q8_19 := f8 19 (by decide)
      have q8_25 := f8 25 (by decide)
      show t_X d 264 40 lv [] g8 P
      have T0 : tJ g8 := ⟨by omega, fun j hj => absurd hj (by omega), fun j hj => absurd hj (by omega)⟩
      refine t_0 qty_40 rfl (ld_a l0) ?_
      refine t_3 qty_41 rfl (ar := ([pvR 196], [])) (pcal_v0 rfl rfl el_196) ⟨by omega, Nat.le_of_ble_eq_true rfl, Nat.le_of_ble_eq_true rfl, rfl⟩ ?_
      refine ri_o (by omega) (h := g8) (fun g9 T9 p9 u9 x9 hJ9 => ?_) (fun g50009 hJ50009 => ?_) 241 _ _ (by omega) (by omega) T0 hJ8 rfl
      · show t_X d 264 44 lv [oI (1)] g9 P
        refine t_2 qty_44 rfl (w := (px_s1 lv 2 (oI (1)), [])) rfl ?_
        replace l0 : px_lg (px_s1 lv 2 (oI (1))) 0 = some (pvR 196) := s1_ne (by decide) (fun _ => rfl) l0
        replace l1 : px_lg (px_s1 lv 2 (oI (1))) 1 = some (oI (n)) := s1_ne (by decide) (fun _ => rfl) l1
        have l2 : px_lg (px_s1 lv 2 (oI (1))) 2 = some (oI (1)) := s1_eq
        generalize px_s1 lv 2 (oI (1)) = lv10 at l0 l1 l2 ⊢
        show t_X d 264 45 lv10 [] g9 P
        exact ty9_l (by omega) (N := n) (by omega) (hA (by omega)) 241 _ _ (by omega) (by omega) T9 hJ9 l0 l2
      · show t_X d 264 44 lv [oI (0)] g50009 P
        refine t_2 qty_44 rfl (w := (px_s1 lv 2 (oI (0)), [])) rfl ?_
        replace l0 : px_lg (px_s1 lv 2 (oI (0))) 0 = some (pvR 196) := s1_ne (by decide) (fun _ => rfl) l0
        replace l1 : px_lg (px_s1 lv 2 (oI (0))) 1 = some (oI (n)) := s1_ne (by decide) (fun _ => rfl) l1
        have l2 : px_lg (px_s1 lv 2 (oI (0))) 2 = some (oI (0)) := s1_eq
        generalize px_s1 lv 2 (oI (0)) = lv11 at l0 l1 l2 ⊢
        show t_X d 264 45 lv11 [] g50009 P
        exact ty9_z (by omega) (hA (by omega)) hJ50009 l0 l2
    · show t_X d 264 18 lv [] g P
      refine t_0 qty_18 rfl rfl ?_
      refine t_5 qty_19 rfl rfl ?_
      exact hR (by omega)
  · show t_X d 264 7 lv [oI (0)] g P
    refine tz_eq qty_7 (by decide) ⟨by omega, by omega⟩ (fun c12 => ?_) (fun c12 => absurd c12 (by omega))
    show t_X d 264 18 lv [] g P
    refine t_0 qty_18 rfl rfl ?_
    refine t_5 qty_19 rfl rfl ?_
    exact hR (by omega)

set_option maxHeartbeats 16000000 in
theorem lw9_2 {d : Nat} {h0 b cb : pH} (hI : qI b) (h35b : fF cb 35 = fF b 34) (h34b : fF cb 34 = fF b 34) (hc : ∀ u : Nat, (u : Int) < fF b 32 → fA cb 222 u = fA b 216 u) {P : Option pv × pH → Prop} (h17b : fF cb 17 = 0) (hP : ∀ (g1 : pH) (z : Int), J_ WL h0 g1 → xL g1 → fF g1 17 = 0 → P (some (oI z), g1)) : ∀ (m k : Nat) (g : pH) (lv : List (Nat × pv)), fF b 34 - k ≤ m → (k : Int) ≤ 16 → J_ WL h0 g → (∀ u, fF g u = fF cb u) → (fA g 222 = fA cb 222 ∧ fA g 219 = fA b 219 ∧ fA g 220 = fA b 220 ∧ fA g 221 = fA b 221) → (∀ j : Nat, j < k → fA g 224 j = fA b 219 j ∧ fA g 225 j = fA b 220 j ∧ fA g 226 j = fA b 221 j) → px_lg lv 0 = some (pvR 196) → px_lg lv 3 = some (oI (k : Int)) → t_X d 213 138 lv [] g P := by
  obtain ⟨w_35, w_a222, w_a223, w_a224, w_a225, w_a226⟩ := WL_f
  have hI1 := hI.1
  intro m
  induction m with
  | zero =>
    intro k g lv hm hk hJ hF hA hB l0 l3
    have hf34 := hF 34
    refine t_0 qlw_138 rfl (ld_i l3) ?_
    refine t_0 qlw_139 rfl (ld_a l0) ?_
    have r1 := fF_b g 34
    refine t_0 qlw_140 rfl (pq_gf (y := 34) rfl) ?_
    refine tb_ge qlw_143 (by decide) ⟨by omega, by omega⟩ ⟨by omega, by omega⟩ (fun c2 => ?_) (fun c2 => absurd c2 (by omega))
    show t_X d 213 200 lv [] g P
    refine t_0 qlw_200 rfl (ld_a l0) ?_
    have r3 := fF_b g 34
    refine t_0 qlw_201 rfl (pq_gf (y := 34) rfl) ?_
    refine t_5 qlw_204 rfl rfl ?_
    refine hP _ _ hJ ?_ (by rw [hF 17]; exact h17b)
    intro q hq
    have h35 := hF 35
    have h34 := hF 34
    have h32 := hF 32
    obtain ⟨D1, D2, y1, y2, y3⟩ := hI.2 q (by omega)
    obtain ⟨x1, x2, x3⟩ := hB q (by omega)
    have z1 := y2.2.1
    rw [x1, x2, x3, hA.1]
    exact ⟨D1, D2, cOK_e y1 (fun u u1 u2 => hc u (by omega)), cOK_e y2 (fun u u1 u2 => hc u (by omega))⟩
  | succ m ih =>
    intro k g lv hm hk hJ hF hA hB l0 l3
    have hf34 := hF 34
    by_cases hks : fF b 34 ≤ k
    · refine t_0 qlw_138 rfl (ld_i l3) ?_
      refine t_0 qlw_139 rfl (ld_a l0) ?_
      have r1 := fF_b g 34
      refine t_0 qlw_140 rfl (pq_gf (y := 34) rfl) ?_
      refine tb_ge qlw_143 (by decide) ⟨by omega, by omega⟩ ⟨by omega, by omega⟩ (fun c2 => ?_) (fun c2 => absurd c2 (by omega))
      show t_X d 213 200 lv [] g P
      refine t_0 qlw_200 rfl (ld_a l0) ?_
      have r3 := fF_b g 34
      refine t_0 qlw_201 rfl (pq_gf (y := 34) rfl) ?_
      refine t_5 qlw_204 rfl rfl ?_
      refine hP _ _ hJ ?_ (by rw [hF 17]; exact h17b)
      intro q hq
      have h35 := hF 35
      have h34 := hF 34
      have h32 := hF 32
      obtain ⟨D1, D2, y1, y2, y3⟩ := hI.2 q (by omega)
      obtain ⟨x1, x2, x3⟩ := hB q (by omega)
      have z1 := y2.2.1
      rw [x1, x2, x3, hA.1]
      exact ⟨D1, D2, cOK_e y1 (fun u u1 u2 => hc u (by omega)), cOK_e y2 (fun u u1 u2 => hc u (by omega))⟩
    refine t_0 qlw_138 rfl (ld_i l3) ?_
    refine t_0 qlw_139 rfl (ld_a l0) ?_
    have r1 := fF_b g 34
    refine t_0 qlw_140 rfl (pq_gf (y := 34) rfl) ?_
    refine tb_ge qlw_143 (by decide) ⟨by omega, by omega⟩ ⟨by omega, by omega⟩ (fun c2 => absurd c2 (by omega)) (fun c2 => ?_)
    show t_X d 213 146 lv [] g P
    refine t_0 qlw_146 rfl (ld_a l0) ?_
    refine t_0 qlw_147 rfl (ar_43 hJ.1) ?_
    refine t_0 qlw_150 rfl (ld_i l3) ?_
    refine t_0 qlw_151 rfl (ld_a l0) ?_
    refine t_0 qlw_152 rfl (ar_38 hJ.1) ?_
    refine t_0 qlw_155 rfl (ld_i l3) ?_
    refine t_0 qlw_156 rfl (pq_ia el_218 rfl ⟨by omega, by omega⟩) ?_
    have r3 := fA_b g 218 (k : Int).toNat
    refine tw_a qlw_157 hJ el_223 rfl w_a223 ga_223 (by decide) ⟨by omega, by omega⟩ ⟨by omega, by omega⟩ (fun g4 hJ4 a4 v4 b4 f4 => ?_)
    replace f4 := fF_1 f4
    have q4_32 := congrFun f4 32
    have q4_34 := congrFun f4 34
    show t_X d 213 158 lv [] g4 P
    refine t_0 qlw_158 rfl (ld_a l0) ?_
    refine t_0 qlw_159 rfl (ar_44 hJ4.1) ?_
    refine t_0 qlw_162 rfl (ld_i l3) ?_
    refine t_0 qlw_163 rfl (ld_a l0) ?_
    refine t_0 qlw_164 rfl (ar_39 hJ4.1) ?_
    refine t_0 qlw_167 rfl (ld_i l3) ?_
    refine t_0 qlw_168 rfl (pq_ia el_219 rfl ⟨by omega, by omega⟩) ?_
    have r5 := fA_b g4 219 (k : Int).toNat
    refine tw_a qlw_169 hJ4 el_224 rfl w_a224 ga_224 (by decide) ⟨by omega, by omega⟩ ⟨by omega, by omega⟩ (fun g6 hJ6 a6 v6 b6 f6 => ?_)
    replace f6 := fF_1 f6
    have q6_32 := congrFun f6 32
    have q6_34 := congrFun f6 34
    show t_X d 213 170 lv [] g6 P
    refine t_0 qlw_170 rfl (ld_a l0) ?_
    refine t_0 qlw_171 rfl (ar_45 hJ6.1) ?_
    refine t_0 qlw_174 rfl (ld_i l3) ?_
    refine t_0 qlw_175 rfl (ld_a l0) ?_
    refine t_0 qlw_176 rfl (ar_40 hJ6.1) ?_
    refine t_0 qlw_179 rfl (ld_i l3) ?_
    refine t_0 qlw_180 rfl (pq_ia el_220 rfl ⟨by omega, by omega⟩) ?_
    have r7 := fA_b g6 220 (k : Int).toNat
    refine tw_a qlw_181 hJ6 el_225 rfl w_a225 ga_225 (by decide) ⟨by omega, by omega⟩ ⟨by omega, by omega⟩ (fun g8 hJ8 a8 v8 b8 f8 => ?_)
    replace f8 := fF_1 f8
    have q8_32 := congrFun f8 32
    have q8_34 := congrFun f8 34
    show t_X d 213 182 lv [] g8 P
    refine t_0 qlw_182 rfl (ld_a l0) ?_
    refine t_0 qlw_183 rfl (ar_46 hJ8.1) ?_
    refine t_0 qlw_186 rfl (ld_i l3) ?_
    refine t_0 qlw_187 rfl (ld_a l0) ?_
    refine t_0 qlw_188 rfl (ar_41 hJ8.1) ?_
    refine t_0 qlw_191 rfl (ld_i l3) ?_
    refine t_0 qlw_192 rfl (pq_ia el_221 rfl ⟨by omega, by omega⟩) ?_
    have r9 := fA_b g8 221 (k : Int).toNat
    refine tw_a qlw_193 hJ8 el_226 rfl w_a226 ga_226 (by decide) ⟨by omega, by omega⟩ ⟨by omega, by omega⟩ (fun g10 hJ10 a10 v10 b10 f10 => ?_)
    replace f10 := fF_1 f10
    have q10_32 := congrFun f10 32
    have q10_34 := congrFun f10 34
    show t_X d 213 194 lv [] g10 P
    refine t_2 qlw_194 rfl (w := (px_s1 lv 3 (oI ((k : Int) + 1)), [])) (pq_inc l3 (by decide)) ?_
    replace l0 : px_lg (px_s1 lv 3 (oI ((k : Int) + 1))) 0 = some (pvR 196) := s1_ne (by decide) (fun _ => rfl) l0
    have l3 : px_lg (px_s1 lv 3 (oI ((k : Int) + 1))) 3 = some (oI ((k : Int) + 1)) := s1_eq
    generalize px_s1 lv 3 (oI ((k : Int) + 1)) = lv11 at l0 l3 ⊢
    show t_X d 213 197 lv11 [] g10 P
    refine t_1 qlw_197 rfl (pb_goto (pc := 197) (by decide)) ?_
    show t_X d 213 138 lv11 [] g10 P
    refine ih (k + 1) _ _ (by omega) (by omega) hJ10 (fun u => by rw [f10, f8, f6, f4]; exact hF u) ?_ ?_ l0 l3
    · obtain ⟨y1, y2, y3, y4⟩ := hA
      exact ⟨by rw [a10 222 (by decide), a8 222 (by decide), a6 222 (by decide), a4 222 (by decide)]; exact y1, by rw [a10 219 (by decide), a8 219 (by decide), a6 219 (by decide), a4 219 (by decide)]; exact y2, by rw [a10 220 (by decide), a8 220 (by decide), a6 220 (by decide), a4 220 (by decide)]; exact y3, by rw [a10 221 (by decide), a8 221 (by decide), a6 221 (by decide), a4 221 (by decide)]; exact y4⟩
    · intro j hj
      by_cases q : j = k
      · subst q
        refine ⟨?_, ?_, ?_⟩
        · rw [a10 224 (by decide), a8 224 (by decide)]
          exact Eq.trans v6 (by rw [a4 219 (by decide), hA.2.1]; rfl)
        · rw [a10 225 (by decide)]
          exact Eq.trans v8 (by rw [a6 220 (by decide), a4 220 (by decide), hA.2.2.1]; rfl)
        · exact Eq.trans v10 (by rw [a8 221 (by decide), a6 221 (by decide), a4 221 (by decide), hA.2.2.2]; rfl)
      · obtain ⟨y1, y2, y3⟩ := hB j (by omega)
        refine ⟨?_, ?_, ?_⟩
        · rw [a10 224 (by decide), a8 224 (by decide), b6 j (by show j ≠ k; omega), a4 224 (by decide)]
          exact y1
        · rw [a10 225 (by decide), b8 j (by show j ≠ k; omega), a6 225 (by decide), a4 225 (by decide)]
          exact y2
        · rw [b10 j (by show j ≠ k; omega), a8 226 (by decide), a6 226 (by decide), a4 226 (by decide)]
          exact y3
set_option maxHeartbeats 8000000 in
theorem lw9_1 {d : Nat} {h0 b cb : pH} (hI : qI b) (hb18 : fF b 18 ≤ 240) (h35b : fF cb 35 = fF b 34) (h34b : fF cb 34 = fF b 34) (h32b : fF cb 32 = fF b 32) {P : Option pv × pH → Prop} (h17b : fF cb 17 = 0) (hP : ∀ (g1 : pH) (z : Int), J_ WL h0 g1 → xL g1 → fF g1 17 = 0 → P (some (oI z), g1)) : ∀ (m k : Nat) (g : pH) (lv : List (Nat × pv)), fF b 32 - k ≤ m → (k : Int) ≤ 240 → J_ WL h0 g → (∀ u, fF g u = fF cb u) → (fA g 216 = fA b 216 ∧ fA g 219 = fA b 219 ∧ fA g 220 = fA b 220 ∧ fA g 221 = fA b 221) → (∀ j : Nat, j < k → fA g 222 j = fA b 216 j) → px_lg lv 0 = some (pvR 196) → px_lg lv 3 = some (oI (k : Int)) → t_X d 213 110 lv [] g P := by
  obtain ⟨w_35, w_a222, w_a223, w_a224, w_a225, w_a226⟩ := WL_f
  have hI1 := hI.1
  intro m
  induction m with
  | zero =>
    intro k g lv hm hk hJ hF hA hB l0 l3
    have hf32 := hF 32
    have hf34 := hF 34
    refine t_0 qlw_110 rfl (ld_i l3) ?_
    refine t_0 qlw_111 rfl (ld_a l0) ?_
    have r1 := fF_b g 32
    refine t_0 qlw_112 rfl (pq_gf (y := 32) rfl) ?_
    refine tb_ge qlw_115 (by decide) ⟨by omega, by omega⟩ ⟨by omega, by omega⟩ (fun c2 => ?_) (fun c2 => absurd c2 (by omega))
    show t_X d 213 136 lv [] g P
    refine t_0 qlw_136 rfl rfl ?_
    refine t_2 qlw_137 rfl (w := (px_s1 lv 3 (oI (0)), [])) rfl ?_
    replace l0 : px_lg (px_s1 lv 3 (oI (0))) 0 = some (pvR 196) := s1_ne (by decide) (fun _ => rfl) l0
    have l3 : px_lg (px_s1 lv 3 (oI (0))) 3 = some (oI (0)) := s1_eq
    generalize px_s1 lv 3 (oI (0)) = lv3 at l0 l3 ⊢
    show t_X d 213 138 lv3 [] g P
    have h35 := hF 35
    have h32 := hF 32
    exact lw9_2 (h17b := by rw [hF]; exact h17b) (d := d) (cb := g) hI (by omega) (by omega) (fun u hu => hB u (by omega)) hP 16 0 _ _ (by omega) (by omega) hJ (fun _ => rfl) ⟨rfl, hA.2.1, hA.2.2.1, hA.2.2.2⟩ (fun j hj => absurd hj (Nat.not_lt_zero j)) l0 l3
  | succ m ih =>
    intro k g lv hm hk hJ hF hA hB l0 l3
    have hf32 := hF 32
    have hf34 := hF 34
    by_cases hks : fF b 32 ≤ k
    · refine t_0 qlw_110 rfl (ld_i l3) ?_
      refine t_0 qlw_111 rfl (ld_a l0) ?_
      have r1 := fF_b g 32
      refine t_0 qlw_112 rfl (pq_gf (y := 32) rfl) ?_
      refine tb_ge qlw_115 (by decide) ⟨by omega, by omega⟩ ⟨by omega, by omega⟩ (fun c2 => ?_) (fun c2 => absurd c2 (by omega))
      show t_X d 213 136 lv [] g P
      refine t_0 qlw_136 rfl rfl ?_
      refine t_2 qlw_137 rfl (w := (px_s1 lv 3 (oI (0)), [])) rfl ?_
      replace l0 : px_lg (px_s1 lv 3 (oI (0))) 0 = some (pvR 196) := s1_ne (by decide) (fun _ => rfl) l0
      have l3 : px_lg (px_s1 lv 3 (oI (0))) 3 = some (oI (0)) := s1_eq
      generalize px_s1 lv 3 (oI (0)) = lv3 at l0 l3 ⊢
      show t_X d 213 138 lv3 [] g P
      have h35 := hF 35
      have h32 := hF 32
      exact lw9_2 (h17b := by rw [hF]; exact h17b) (d := d) (cb := g) hI (by omega) (by omega) (fun u hu => hB u (by omega)) hP 16 0 _ _ (by omega) (by omega) hJ (fun _ => rfl) ⟨rfl, hA.2.1, hA.2.2.1, hA.2.2.2⟩ (fun j hj => absurd hj (Nat.not_lt_zero j)) l0 l3
    refine t_0 qlw_110 rfl (ld_i l3) ?_
    refine t_0 qlw_111 rfl (ld_a l0) ?_
    have r1 := fF_b g 32
    refine t_0 qlw_112 rfl (pq_gf (y := 32) rfl) ?_
    refine tb_ge qlw_115 (by decide) ⟨by omega, by omega⟩ ⟨by omega, by omega⟩ (fun c2 => absurd c2 (by omega)) (fun c2 => ?_)
    show t_X d 213 118 lv [] g P
    refine t_0 qlw_118 rfl (ld_a l0) ?_
    refine t_0 qlw_119 rfl (ar_42 hJ.1) ?_
    refine t_0 qlw_122 rfl (ld_i l3) ?_
    refine t_0 qlw_123 rfl (ld_a l0) ?_
    refine t_0 qlw_124 rfl (ar_36 hJ.1) ?_
    refine t_0 qlw_127 rfl (ld_i l3) ?_
    refine t_0 qlw_128 rfl (pq_ia el_216 rfl ⟨by omega, by omega⟩) ?_
    have r3 := fA_b g 216 (k : Int).toNat
    refine tw_a qlw_129 hJ el_222 rfl w_a222 ga_222 (by decide) ⟨by omega, by omega⟩ ⟨by omega, by omega⟩ (fun g4 hJ4 a4 v4 b4 f4 => ?_)
    replace f4 := fF_1 f4
    have q4_32 := congrFun f4 32
    have q4_34 := congrFun f4 34
    show t_X d 213 130 lv [] g4 P
    refine t_2 qlw_130 rfl (w := (px_s1 lv 3 (oI ((k : Int) + 1)), [])) (pq_inc l3 (by decide)) ?_
    replace l0 : px_lg (px_s1 lv 3 (oI ((k : Int) + 1))) 0 = some (pvR 196) := s1_ne (by decide) (fun _ => rfl) l0
    have l3 : px_lg (px_s1 lv 3 (oI ((k : Int) + 1))) 3 = some (oI ((k : Int) + 1)) := s1_eq
    generalize px_s1 lv 3 (oI ((k : Int) + 1)) = lv5 at l0 l3 ⊢
    show t_X d 213 133 lv5 [] g4 P
    refine t_1 qlw_133 rfl (pb_goto (pc := 133) (by decide)) ?_
    show t_X d 213 110 lv5 [] g4 P
    refine ih (k + 1) _ _ (by omega) (by omega) hJ4 (fun u => by rw [f4]; exact hF u) ?_ ?_ l0 l3
    · obtain ⟨y1, y2, y3, y4⟩ := hA
      exact ⟨by rw [a4 216 (by decide)]; exact y1, by rw [a4 219 (by decide)]; exact y2, by rw [a4 220 (by decide)]; exact y3, by rw [a4 221 (by decide)]; exact y4⟩
    · intro j hj
      by_cases q : j = k
      · subst q
        exact Eq.trans v4 (by rw [hA.1]; rfl)
      · rw [b4 j (by show j ≠ k; omega)]
        exact hB j (by omega)
set_option maxHeartbeats 8000000 in
theorem lw9_e {d : Nat} {h0 : pH} (hx : xL h0) {P : Option pv × pH → Prop} (hP : ∀ (g1 : pH) (z : Int), J_ WL h0 g1 → xL g1 → fF g1 17 = 0 → P (some (oI z), g1)) {g : pH} (hJ : J_ Wm h0 g) {x : Int} (hxx : x = 0 ∨ (x = 1 ∧ qI g ∧ fF g 18 ≤ 240)) {lv : List (Nat × pv)} (l0 : px_lg lv 0 = some (pvR 196)) (l2 : px_lg lv 2 = some (oI x)) : t_X d 213 86 lv [] g P := by
  obtain ⟨w_17, w_18, w_19, w_20, w_32, w_34, wqm, wmx, wml⟩ := Wm_f
  obtain ⟨w_35, w_a222, w_a223, w_a224, w_a225, w_a226⟩ := WL_f
  rcases hxx with rfl | ⟨rfl, hI, hp⟩
  · refine t_0 qlw_86 rfl (ld_a l0) ?_
    refine t_0 qlw_87 rfl rfl ?_
    refine tw_f qlw_88 rfl hJ w_17 gf_17 (by decide) ⟨by omega, by omega⟩ (fun g1 hJ1 v1 f1 a1 => ?_)
    replace a1 := fA_2 a1
    have q1_18 := f1 18 (by decide)
    have q1_19 := f1 19 (by decide)
    have q1_32 := f1 32 (by decide)
    have q1_33 := f1 33 (by decide)
    have q1_34 := f1 34 (by decide)
    show t_X d 213 91 lv [] g1 P
    refine t_0 qlw_91 rfl (ld_i l2) ?_
    refine tz_ne qlw_92 (by decide) ⟨by omega, by omega⟩ (fun c2 => absurd c2 (by omega)) (fun c2 => ?_)
    show t_X d 213 95 lv [] g1 P
    refine t_0 qlw_95 rfl (ld_a l0) ?_
    have r3 := fF_b g1 20
    refine t_0 qlw_96 rfl (pq_gf (y := 20) rfl) ?_
    refine t_5 qlw_99 rfl rfl ?_
    exact hP _ _ (J_wide wml hJ1) (xL_K _ _ _ hJ1.2 wmx hx) v1
  · have hI1 := hI.1
    refine t_0 qlw_86 rfl (ld_a l0) ?_
    refine t_0 qlw_87 rfl rfl ?_
    refine tw_f qlw_88 rfl hJ w_17 gf_17 (by decide) ⟨by omega, by omega⟩ (fun g1 hJ1 v1 f1 a1 => ?_)
    replace a1 := fA_2 a1
    have q1_18 := f1 18 (by decide)
    have q1_19 := f1 19 (by decide)
    have q1_32 := f1 32 (by decide)
    have q1_33 := f1 33 (by decide)
    have q1_34 := f1 34 (by decide)
    show t_X d 213 91 lv [] g1 P
    refine t_0 qlw_91 rfl (ld_i l2) ?_
    refine tz_ne qlw_92 (by decide) ⟨by omega, by omega⟩ (fun c2 => ?_) (fun c2 => absurd c2 (by omega))
    show t_X d 213 100 lv [] g1 P
    have hJw := J_wide wml hJ1
    refine t_0 qlw_100 rfl (ld_a l0) ?_
    refine t_0 qlw_101 rfl (ld_a l0) ?_
    have r3 := fF_b g1 34
    refine t_0 qlw_102 rfl (pq_gf (y := 34) rfl) ?_
    refine tw_f qlw_105 rfl hJw w_35 gf_35 (by decide) ⟨by omega, by omega⟩ (fun g4 hJ4 v4 f4 a4 => ?_)
    replace a4 := fA_2 a4
    have q4_18 := f4 18 (by decide)
    have q4_19 := f4 19 (by decide)
    have q4_32 := f4 32 (by decide)
    have q4_33 := f4 33 (by decide)
    have q4_34 := f4 34 (by decide)
    show t_X d 213 108 lv [] g4 P
    refine t_0 qlw_108 rfl rfl ?_
    refine t_2 qlw_109 rfl (w := (px_s1 lv 3 (oI (0)), [])) rfl ?_
    replace l0 : px_lg (px_s1 lv 3 (oI (0))) 0 = some (pvR 196) := s1_ne (by decide) (fun _ => rfl) l0
    replace l2 : px_lg (px_s1 lv 3 (oI (0))) 2 = some (oI (1)) := s1_ne (by decide) (fun _ => rfl) l2
    have l3 : px_lg (px_s1 lv 3 (oI (0))) 3 = some (oI (0)) := s1_eq
    generalize px_s1 lv 3 (oI (0)) = lv5 at l0 l2 l3 ⊢
    show t_X d 213 110 lv5 [] g4 P
    exact lw9_1 (h17b := by rw [f4 17 (by decide)]; exact v1) (d := d) (b := g) (cb := g4) hI (by omega) (by omega) (by omega) (by omega) hP 240 0 _ _ (by omega) (by omega) hJ4 (fun _ => rfl) ⟨by rw [a4, a1], by rw [a4, a1], by rw [a4, a1], by rw [a4, a1]⟩ (fun j hj => absurd hj (Nat.not_lt_zero j)) l0 l3
theorem lw9_z {d : Nat} {h0 : pH} (hx : xL h0) {P : Option pv × pH → Prop} (hP : ∀ (g1 : pH) (z : Int), J_ WL h0 g1 → xL g1 → fF g1 17 = 0 → P (some (oI z), g1)) {g : pH} (hJ : J_ Wm h0 g) {lv : List (Nat × pv)} (l0 : px_lg lv 0 = some (pvR 196)) (l2 : px_lg lv 2 = some (oI 0)) : t_X d 213 46 lv [] g P := by
  refine t_0 qlw_46 rfl (ld_i l2) ?_
  refine tz_eq qlw_47 (by decide) ⟨by omega, by omega⟩ (fun c1 => ?_) (fun c1 => absurd c1 (by omega))
  show t_X d 213 86 lv [] g P
  exact lw9_e hx hP hJ (Or.inl rfl) l0 l2
set_option maxHeartbeats 8000000 in
theorem lw9_m {d : Nat} (hd : 9 ≤ d) {h0 : pH} (hx : xL h0) {N : Int} (hN : 0 ≤ N ∧ N ≤ 240) {P : Option pv × pH → Prop} (hP : ∀ (g1 : pH) (z : Int), J_ WL h0 g1 → xL g1 → fF g1 17 = 0 → P (some (oI z), g1)) : ∀ (m : Nat) (g : pH) (lv : List (Nat × pv)), N + 1 - fF g 18 ≤ m → (0 ≤ fF g 18 ∧ fF g 18 ≤ N ∧ fF g 19 = N) → qI g → J_ Wm h0 g → px_lg lv 0 = some (pvR 196) → px_lg lv 2 = some (oI 1) → t_X d 213 46 lv [] g P := by
  obtain ⟨w_17, w_18, w_19, w_20, w_32, w_34, wqm, wmx, wml⟩ := Wm_f
  intro m
  induction m with
  | zero =>
    intro g lv hm hp hI hJ l0 l2
    omega
  | succ m ih =>
    intro g lv hm hp hI hJ l0 l2
    have hI1 := hI.1
    refine t_0 qlw_46 rfl (ld_i l2) ?_
    refine tz_eq qlw_47 (by decide) ⟨by omega, by omega⟩ (fun c1 => absurd c1 (by omega)) (fun c1 => ?_)
    show t_X d 213 50 lv [] g P
    refine t_0 qlw_50 rfl (ld_a l0) ?_
    have r2 := fF_b g 18
    refine t_0 qlw_51 rfl (pq_gf (y := 18) rfl) ?_
    refine t_0 qlw_54 rfl (ld_a l0) ?_
    have r3 := fF_b g 19
    refine t_0 qlw_55 rfl (pq_gf (y := 19) rfl) ?_
    refine tb_ge qlw_58 (by decide) ⟨by omega, by omega⟩ ⟨by omega, by omega⟩ (fun c4 => ?_) (fun c4 => ?_)
    · show t_X d 213 86 lv [] g P
      exact lw9_e hx hP hJ (Or.inr ⟨rfl, hI, by omega⟩) l0 l2
    · show t_X d 213 61 lv [] g P
      refine t_0 qlw_61 rfl (ld_a l0) ?_
      refine t_0 qlw_62 rfl (pq_b (by decide)) ?_
      refine t_3 qlw_64 rfl (ar := ([pvR 196, oI (59)], [])) (pcal_v1 rfl rfl el_196) ⟨by omega, Nat.le_of_ble_eq_true rfl, Nat.le_of_ble_eq_true rfl, rfl⟩ ?_
      refine tk_run (by omega) hJ w_18 w_20 (by omega) (by omega) (by decide) (fun g5 p5 u5 hJ5 f5 a5 => ?_) (fun g50005 hJ50005 => ?_) rfl rfl
      · have q5_19 := f5 19 (by decide)
        have q5_32 := f5 32 (by decide)
        have q5_34 := f5 34 (by decide)
        have I5 : qI g5 := by
          unfold qI
          rw [q5_32, q5_34, a5]
          exact ⟨by omega, hI.2⟩
        show t_X d 213 67 lv [oI (1)] g5 P
        refine tz_eq qlw_67 (by decide) ⟨by omega, by omega⟩ (fun c6 => absurd c6 (by omega)) (fun c6 => ?_)
        show t_X d 213 70 lv [] g5 P
        refine t_0 qlw_70 rfl (ld_a l0) ?_
        refine t_3 qlw_71 rfl (ar := ([pvR 196], [])) (pcal_v0 rfl rfl el_196) ⟨by omega, Nat.le_of_ble_eq_true rfl, Nat.le_of_ble_eq_true rfl, rfl⟩ ?_
        refine cl_run (h0 := g5) (by omega) (J_rf hJ5.1) I5 ⟨by omega, by omega, by omega⟩ (fun g7 A7 I7 p7 u7 x7 => ?_) (fun g50007 A50007 => ?_) rfl
        · have hJ7 := J_up wqm hJ5 A7
          show t_X d 213 74 lv [oI (1)] g7 P
          refine tz_eq qlw_74 (by decide) ⟨by omega, by omega⟩ (fun c8 => absurd c8 (by omega)) (fun c8 => ?_)
          show t_X d 213 77 lv [] g7 P
          refine t_0 qlw_77 rfl rfl ?_
          refine t_1 qlw_78 rfl (pb_goto (pc := 78) (by decide)) ?_
          show t_X d 213 82 lv [oI (1)] g7 P
          refine t_2 qlw_82 rfl (w := (px_s1 lv 2 (oI (1)), [])) rfl ?_
          replace l0 : px_lg (px_s1 lv 2 (oI (1))) 0 = some (pvR 196) := s1_ne (by decide) (fun _ => rfl) l0
          have l2 : px_lg (px_s1 lv 2 (oI (1))) 2 = some (oI (1)) := s1_eq
          generalize px_s1 lv 2 (oI (1)) = lv9 at l0 l2 ⊢
          show t_X d 213 83 lv9 [] g7 P
          refine t_1 qlw_83 rfl (pb_goto (pc := 83) (by decide)) ?_
          show t_X d 213 46 lv9 [] g7 P
          exact ih _ _ (by omega) (by omega) I7 hJ7 l0 l2
        · have hJ50007 := J_up wqm hJ5 A50007
          show t_X d 213 74 lv [oI (0)] g50007 P
          refine tz_eq qlw_74 (by decide) ⟨by omega, by omega⟩ (fun c10 => ?_) (fun c10 => absurd c10 (by omega))
          show t_X d 213 81 lv [] g50007 P
          refine t_0 qlw_81 rfl rfl ?_
          refine t_2 qlw_82 rfl (w := (px_s1 lv 2 (oI (0)), [])) rfl ?_
          replace l0 : px_lg (px_s1 lv 2 (oI (0))) 0 = some (pvR 196) := s1_ne (by decide) (fun _ => rfl) l0
          have l2 : px_lg (px_s1 lv 2 (oI (0))) 2 = some (oI (0)) := s1_eq
          generalize px_s1 lv 2 (oI (0)) = lv11 at l0 l2 ⊢
          show t_X d 213 83 lv11 [] g50007 P
          refine t_1 qlw_83 rfl (pb_goto (pc := 83) (by decide)) ?_
          show t_X d 213 46 lv11 [] g50007 P
          exact lw9_z hx hP hJ50007 l0 l2
      · show t_X d 213 67 lv [oI (0)] g50005 P
        refine tz_eq qlw_67 (by decide) ⟨by omega, by omega⟩ (fun c12 => ?_) (fun c12 => absurd c12 (by omega))
        show t_X d 213 81 lv [] g50005 P
        refine t_0 qlw_81 rfl rfl ?_
        refine t_2 qlw_82 rfl (w := (px_s1 lv 2 (oI (0)), [])) rfl ?_
        replace l0 : px_lg (px_s1 lv 2 (oI (0))) 0 = some (pvR 196) := s1_ne (by decide) (fun _ => rfl) l0
        have l2 : px_lg (px_s1 lv 2 (oI (0))) 2 = some (oI (0)) := s1_eq
        generalize px_s1 lv 2 (oI (0)) = lv13 at l0 l2 ⊢
        show t_X d 213 83 lv13 [] g50005 P
        refine t_1 qlw_83 rfl (pb_goto (pc := 83) (by decide)) ?_
        show t_X d 213 46 lv13 [] g50005 P
        exact lw9_z hx hP hJ50005 l0 l2
set_option maxHeartbeats 8000000 in
theorem lw9_run {d : Nat} (hd : 10 ≤ d) {g : pH} (hG : g_I eG g) (hx : xL g) {n : Int} (hn : -2147483648 ≤ n ∧ n ≤ 2147483647) {P : Option pv × pH → Prop} (hA : (1 ≤ n ∧ n ≤ 240) ∧ n ≤ fF g 17 → ∀ (g1 : pH) (z : Int), J_ WL g g1 → xL g1 → fF g1 17 = 0 → P (some (oI z), g1)) (hR : ¬ ((1 ≤ n ∧ n ≤ 240) ∧ n ≤ fF g 17) → P (some (oI (-1)), g)) {lv : List (Nat × pv)} (l0 : px_lg lv 0 = some (pvR 196)) (l1 : px_lg lv 1 = some (oI n)) : t_X d 213 0 lv [] g P := by
  obtain ⟨w_17, w_18, w_19, w_20, w_32, w_34, wqm, wmx, wml⟩ := Wm_f
  have hJ0 : J_ Wm g g := J_rf hG
  refine t_0 qlw_0 rfl (ld_i l1) ?_
  refine t_0 qlw_1 rfl rfl ?_
  refine t_0 qlw_2 rfl (pq_s (by decide)) ?_
  refine t_3 qlw_5 rfl (ar := ([oI (n), oI (1), oI (240)], [])) (pcal_s ⟨Or.inl rfl, rfl, Nat.le_of_ble_eq_true rfl⟩) ⟨by omega, Nat.le_of_ble_eq_true rfl, Nat.le_of_ble_eq_true rfl, rfl⟩ ?_
  refine in_run ⟨by omega, by omega⟩ ⟨by omega, by omega⟩ ⟨by omega, by omega⟩ rfl rfl rfl (fun t1 => ?_) (fun t1 => ?_)
  · show t_X d 213 8 lv [oI (1)] g P
    refine tz_eq qlw_8 (by decide) ⟨by omega, by omega⟩ (fun c2 => absurd c2 (by omega)) (fun c2 => ?_)
    show t_X d 213 11 lv [] g P
    refine t_0 qlw_11 rfl (ld_i l1) ?_
    refine t_0 qlw_12 rfl (ld_a l0) ?_
    have r3 := gb_f hJ0.1 (y := 17) rfl rfl gf_17
    refine t_0 qlw_13 rfl (pq_gf (y := 17) rfl) ?_
    refine tb_le qlw_16 (by decide) ⟨by omega, by omega⟩ ⟨by omega, by omega⟩ (fun c4 => ?_) (fun c4 => ?_)
    · show t_X d 213 21 lv [] g P
      refine t_0 qlw_21 rfl (ld_a l0) ?_
      refine t_0 qlw_22 rfl rfl ?_
      refine tw_f qlw_23 rfl hJ0 w_18 gf_18 (by decide) ⟨by omega, by omega⟩ (fun g5 hJ5 v5 f5 a5 => ?_)
      replace a5 := fA_2 a5
      have q5_19 := f5 19 (by decide)
      have q5_32 := f5 32 (by decide)
      have q5_33 := f5 33 (by decide)
      have q5_34 := f5 34 (by decide)
      show t_X d 213 26 lv [] g5 P
      refine t_0 qlw_26 rfl (ld_a l0) ?_
      refine t_0 qlw_27 rfl (ld_i l1) ?_
      refine tw_f qlw_28 rfl hJ5 w_19 gf_19 (by decide) ⟨by omega, by omega⟩ (fun g6 hJ6 v6 f6 a6 => ?_)
      replace a6 := fA_2 a6
      have q6_18 := f6 18 (by decide)
      have q6_32 := f6 32 (by decide)
      have q6_33 := f6 33 (by decide)
      have q6_34 := f6 34 (by decide)
      show t_X d 213 31 lv [] g6 P
      refine t_0 qlw_31 rfl (ld_a l0) ?_
      refine t_0 qlw_32 rfl rfl ?_
      refine tw_f qlw_33 rfl hJ6 w_32 gf_32 (by decide) ⟨by omega, by omega⟩ (fun g7 hJ7 v7 f7 a7 => ?_)
      replace a7 := fA_2 a7
      have q7_18 := f7 18 (by decide)
      have q7_19 := f7 19 (by decide)
      have q7_33 := f7 33 (by decide)
      have q7_34 := f7 34 (by decide)
      show t_X d 213 36 lv [] g7 P
      refine t_0 qlw_36 rfl (ld_a l0) ?_
      refine t_0 qlw_37 rfl rfl ?_
      refine tw_f qlw_38 rfl hJ7 w_34 gf_34 (by decide) ⟨by omega, by omega⟩ (fun g8 hJ8 v8 f8 a8 => ?_)
      replace a8 := fA_2 a8
      have q8_18 := f8 18 (by decide)
      have q8_19 := f8 19 (by decide)
      have q8_32 := f8 32 (by decide)
      have q8_33 := f8 33 (by decide)
      show t_X d 213 41 lv [] g8 P
      have I0 : qI g8 := ⟨by omega, fun q hq => absurd hq (by omega)⟩
      refine t_0 qlw_41 rfl (ld_a l0) ?_
      refine t_3 qlw_42 rfl (ar := ([pvR 196], [])) (pcal_v0 rfl rfl el_196) ⟨by omega, Nat.le_of_ble_eq_true rfl, Nat.le_of_ble_eq_true rfl, rfl⟩ ?_
      refine cl_run (h0 := g8) (by omega) (J_rf hJ8.1) I0 ⟨by omega, by omega, by omega⟩ (fun g9 A9 I9 p9 u9 x9 => ?_) (fun g50009 A50009 => ?_) rfl
      · have hJ9 := J_up wqm hJ8 A9
        show t_X d 213 45 lv [oI (1)] g9 P
        refine t_2 qlw_45 rfl (w := (px_s1 lv 2 (oI (1)), [])) rfl ?_
        replace l0 : px_lg (px_s1 lv 2 (oI (1))) 0 = some (pvR 196) := s1_ne (by decide) (fun _ => rfl) l0
        replace l1 : px_lg (px_s1 lv 2 (oI (1))) 1 = some (oI (n)) := s1_ne (by decide) (fun _ => rfl) l1
        have l2 : px_lg (px_s1 lv 2 (oI (1))) 2 = some (oI (1)) := s1_eq
        generalize px_s1 lv 2 (oI (1)) = lv10 at l0 l1 l2 ⊢
        show t_X d 213 46 lv10 [] g9 P
        exact lw9_m (by omega) hx (N := n) (by omega) (hA (by omega)) 241 _ _ (by omega) (by omega) I9 hJ9 l0 l2
      · have hJ50009 := J_up wqm hJ8 A50009
        show t_X d 213 45 lv [oI (0)] g50009 P
        refine t_2 qlw_45 rfl (w := (px_s1 lv 2 (oI (0)), [])) rfl ?_
        replace l0 : px_lg (px_s1 lv 2 (oI (0))) 0 = some (pvR 196) := s1_ne (by decide) (fun _ => rfl) l0
        replace l1 : px_lg (px_s1 lv 2 (oI (0))) 1 = some (oI (n)) := s1_ne (by decide) (fun _ => rfl) l1
        have l2 : px_lg (px_s1 lv 2 (oI (0))) 2 = some (oI (0)) := s1_eq
        generalize px_s1 lv 2 (oI (0)) = lv11 at l0 l1 l2 ⊢
        show t_X d 213 46 lv11 [] g50009 P
        exact lw9_z hx (hA (by omega)) hJ50009 l0 l2
    · show t_X d 213 19 lv [] g P
      refine t_0 qlw_19 rfl rfl ?_
      refine t_5 qlw_20 rfl rfl ?_
      exact hR (by omega)
  · show t_X d 213 8 lv [oI (0)] g P
    refine tz_eq qlw_8 (by decide) ⟨by omega, by omega⟩ (fun c12 => ?_) (fun c12 => absurd c12 (by omega))
    show t_X d 213 19 lv [] g P
    refine t_0 qlw_19 rfl rfl ?_
    refine t_5 qlw_20 rfl rfl ?_
    exact hR (by omega)

def Ws9 : Nat := kk_185.2.2.2.1 ||| Wo
theorem Ws9_1 : Ws9.testBit (cn 196 + 17) = false ∧ Ws9 &&& eDX = 0 ∧ kk_185.2.2.2.1 &&& Ws9 = kk_185.2.2.2.1 ∧ Wo &&& Ws9 = Wo := by decide +kernel
theorem Ws9_2 : Ws9 &&& Ws = Ws9 := by decide +kernel
set_option maxHeartbeats 8000000 in
theorem sy9_b {d : Nat} (hd : 4 ≤ d) {h0 : pH} {n w : Int} (hn : 2 ≤ n ∧ n ≤ 12) {all : Int64} {a : Nat} (ha : (a : Int) < n) {P : Option pv × pH → Prop} (hC : ∀ (g : pH) (most : Int64) (f s : Int) (lv : List (Nat × pv)), (f = -1 ∧ s = -1) ∨ (0 ≤ f ∧ f < 12 ∧ 0 ≤ s ∧ s < 12) → J_ Ws9 h0 g → fF g 71 = (n.toNat : Int) → px_lg lv 0 = some (pvR 196) → px_lg lv 1 = some (oI n) → px_lg lv 4 = some (oI w) → px_lg lv 5 = some (.inr (.inl all)) → px_lg lv 7 = some (.inr (.inl most)) → px_lg lv 9 = some (oI f) → px_lg lv 10 = some (oI s) → px_lg lv 11 = some (oI (a : Int)) → t_X d 243 198 lv [] g P) : ∀ (m b : Nat) (g : pH) (most : Int64) (f s : Int) (lv : List (Nat × pv)), n - b ≤ m → (b : Int) ≤ 12 → (f = -1 ∧ s = -1) ∨ (0 ≤ f ∧ f < 12 ∧ 0 ≤ s ∧ s < 12) → J_ Ws9 h0 g → fF g 71 = (n.toNat : Int) → px_lg lv 0 = some (pvR 196) → px_lg lv 1 = some (oI n) → px_lg lv 4 = some (oI w) → px_lg lv 5 = some (.inr (.inl all)) → px_lg lv 7 = some (.inr (.inl most)) → px_lg lv 9 = some (oI f) → px_lg lv 10 = some (oI s) → px_lg lv 11 = some (oI (a : Int)) → px_lg lv 12 = some (oI (b : Int)) → t_X d 243 130 lv [] g P := by
  have hs2 : n.toNat ≤ 12 := by omega
  intro m
  induction m with
  | zero =>
    intro b g most f s lv hm hb hf hJ h71 l0 l1 l4 l5 l7 l9 l10 l11 l12
    refine t_0 qsy_130 rfl (ld_i l12) ?_
    refine t_0 qsy_132 rfl (ld_i l1) ?_
    refine tb_ge qsy_133 (by decide) ⟨by omega, by omega⟩ ⟨by omega, by omega⟩ (fun c1 => ?_) (fun c1 => absurd c1 (by omega))
    show t_X d 243 198 lv [] g P
    exact hC _ _ _ _ _ hf hJ h71 l0 l1 l4 l5 l7 l9 l10 l11
  | succ m ih =>
    intro b g most f s lv hm hb hf hJ h71 l0 l1 l4 l5 l7 l9 l10 l11 l12
    refine t_0 qsy_130 rfl (ld_i l12) ?_
    refine t_0 qsy_132 rfl (ld_i l1) ?_
    refine tb_ge qsy_133 (by decide) ⟨by omega, by omega⟩ ⟨by omega, by omega⟩ (fun c1 => ?_) (fun c1 => ?_)
    · show t_X d 243 198 lv [] g P
      exact hC _ _ _ _ _ hf hJ h71 l0 l1 l4 l5 l7 l9 l10 l11
    · show t_X d 243 136 lv [] g P
      refine t_0 qsy_136 rfl (ld_a l0) ?_
      refine t_0 qsy_137 rfl (ld_i l11) ?_
      refine t_0 qsy_139 rfl (ld_i l12) ?_
      refine t_3 qsy_141 rfl (ar := ([pvR 196, oI ((a : Int)), oI ((b : Int))], [])) (pcal_v2 rfl rfl el_196) ⟨by omega, Nat.le_of_ble_eq_true rfl, Nat.le_of_ble_eq_true rfl, rfl⟩ ?_
      refine lo_run (by omega) hs2 h71 (Or.inr ⟨by omega, by omega, by omega, by omega⟩) (fun g2 hA2 hZ2 => ?_) hJ.1 rfl rfl rfl
      have hJ2 := J_up Ws9_1.2.2.2 hJ hA2
      show t_X d 243 144 lv [.inr (.inl (Lw g2 0))] g2 P
      refine t_2 qsy_144 rfl (w := (px_s2 lv 13 (.inr (.inl (Lw g2 0))), [])) rfl ?_
      replace l0 : px_lg (px_s2 lv 13 (.inr (.inl (Lw g2 0)))) 0 = some (pvR 196) := s2_ne (by decide) (fun _ => rfl) l0
      replace l1 : px_lg (px_s2 lv 13 (.inr (.inl (Lw g2 0)))) 1 = some (oI (n)) := s2_ne (by decide) (fun _ => rfl) l1
      replace l4 : px_lg (px_s2 lv 13 (.inr (.inl (Lw g2 0)))) 4 = some (oI (w)) := s2_ne (by decide) (fun _ => rfl) l4
      replace l5 : px_lg (px_s2 lv 13 (.inr (.inl (Lw g2 0)))) 5 = some (.inr (.inl (all))) := s2_ne (by decide) (fun z => absurd z (by decide)) l5
      replace l7 : px_lg (px_s2 lv 13 (.inr (.inl (Lw g2 0)))) 7 = some (.inr (.inl (most))) := s2_ne (by decide) (fun z => absurd z (by decide)) l7
      replace l9 : px_lg (px_s2 lv 13 (.inr (.inl (Lw g2 0)))) 9 = some (oI (f)) := s2_ne (by decide) (fun _ => rfl) l9
      replace l10 : px_lg (px_s2 lv 13 (.inr (.inl (Lw g2 0)))) 10 = some (oI (s)) := s2_ne (by decide) (fun _ => rfl) l10
      replace l11 : px_lg (px_s2 lv 13 (.inr (.inl (Lw g2 0)))) 11 = some (oI ((a : Int))) := s2_ne (by decide) (fun _ => rfl) l11
      replace l12 : px_lg (px_s2 lv 13 (.inr (.inl (Lw g2 0)))) 12 = some (oI ((b : Int))) := s2_ne (by decide) (fun _ => rfl) l12
      have l13 : px_lg (px_s2 lv 13 (.inr (.inl (Lw g2 0)))) 13 = some (.inr (.inl (Lw g2 0))) := s2_eq
      generalize px_s2 lv 13 (.inr (.inl (Lw g2 0))) = lv3 at l0 l1 l4 l5 l7 l9 l10 l11 l12 l13 ⊢
      show t_X d 243 146 lv3 [] g2 P
      refine t_0 qsy_146 rfl (ld_l l13) ?_
      refine t_0 qsy_148 rfl (ld_l l5) ?_
      refine t_0 qsy_150 rfl (ld_l l13) ?_
      refine t_0 qsy_152 rfl rfl ?_
      refine t_0 qsy_153 rfl rfl ?_
      refine tx_ge qsy_154 (by decide) (fun c4 => ?_) (fun c4 => ?_)
      · show t_X d 243 162 lv3 [] g2 P
        refine t_0 qsy_162 rfl (ld_l l5) ?_
        refine t_0 qsy_164 rfl (ld_l l13) ?_
        refine t_0 qsy_166 rfl rfl ?_
        refine t_2 qsy_167 rfl (w := (px_s2 lv3 15 (.inr (.inl ((all) - (Lw g2 0)))), [])) rfl ?_
        replace l0 : px_lg (px_s2 lv3 15 (.inr (.inl ((all) - (Lw g2 0))))) 0 = some (pvR 196) := s2_ne (by decide) (fun _ => rfl) l0
        replace l1 : px_lg (px_s2 lv3 15 (.inr (.inl ((all) - (Lw g2 0))))) 1 = some (oI (n)) := s2_ne (by decide) (fun _ => rfl) l1
        replace l4 : px_lg (px_s2 lv3 15 (.inr (.inl ((all) - (Lw g2 0))))) 4 = some (oI (w)) := s2_ne (by decide) (fun _ => rfl) l4
        replace l5 : px_lg (px_s2 lv3 15 (.inr (.inl ((all) - (Lw g2 0))))) 5 = some (.inr (.inl (all))) := s2_ne (by decide) (fun z => absurd z (by decide)) l5
        replace l7 : px_lg (px_s2 lv3 15 (.inr (.inl ((all) - (Lw g2 0))))) 7 = some (.inr (.inl (most))) := s2_ne (by decide) (fun z => absurd z (by decide)) l7
        replace l9 : px_lg (px_s2 lv3 15 (.inr (.inl ((all) - (Lw g2 0))))) 9 = some (oI (f)) := s2_ne (by decide) (fun _ => rfl) l9
        replace l10 : px_lg (px_s2 lv3 15 (.inr (.inl ((all) - (Lw g2 0))))) 10 = some (oI (s)) := s2_ne (by decide) (fun _ => rfl) l10
        replace l11 : px_lg (px_s2 lv3 15 (.inr (.inl ((all) - (Lw g2 0))))) 11 = some (oI ((a : Int))) := s2_ne (by decide) (fun _ => rfl) l11
        replace l12 : px_lg (px_s2 lv3 15 (.inr (.inl ((all) - (Lw g2 0))))) 12 = some (oI ((b : Int))) := s2_ne (by decide) (fun _ => rfl) l12
        replace l13 : px_lg (px_s2 lv3 15 (.inr (.inl ((all) - (Lw g2 0))))) 13 = some (.inr (.inl (Lw g2 0))) := s2_ne (by decide) (fun z => absurd z (by decide)) l13
        have l15 : px_lg (px_s2 lv3 15 (.inr (.inl ((all) - (Lw g2 0))))) 15 = some (.inr (.inl ((all) - (Lw g2 0)))) := s2_eq
        generalize px_s2 lv3 15 (.inr (.inl ((all) - (Lw g2 0)))) = lv5 at l0 l1 l4 l5 l7 l9 l10 l11 l12 l13 l15 ⊢
        show t_X d 243 169 lv5 [] g2 P
        refine t_0 qsy_169 rfl (ld_l l15) ?_
        refine t_0 qsy_171 rfl (ld_l l7) ?_
        refine t_0 qsy_173 rfl rfl ?_
        refine tx_gt qsy_174 (by decide) (fun c6 => ?_) (fun c6 => ?_)
        · show t_X d 243 180 lv5 [] g2 P
          refine t_0 qsy_180 rfl (ld_l l15) ?_
          refine t_2 qsy_182 rfl (w := (px_s2 lv5 7 (.inr (.inl ((all) - (Lw g2 0)))), [])) rfl ?_
          replace l0 : px_lg (px_s2 lv5 7 (.inr (.inl ((all) - (Lw g2 0))))) 0 = some (pvR 196) := s2_ne (by decide) (fun _ => rfl) l0
          replace l1 : px_lg (px_s2 lv5 7 (.inr (.inl ((all) - (Lw g2 0))))) 1 = some (oI (n)) := s2_ne (by decide) (fun _ => rfl) l1
          replace l4 : px_lg (px_s2 lv5 7 (.inr (.inl ((all) - (Lw g2 0))))) 4 = some (oI (w)) := s2_ne (by decide) (fun _ => rfl) l4
          replace l5 : px_lg (px_s2 lv5 7 (.inr (.inl ((all) - (Lw g2 0))))) 5 = some (.inr (.inl (all))) := s2_ne (by decide) (fun z => absurd z (by decide)) l5
          replace l9 : px_lg (px_s2 lv5 7 (.inr (.inl ((all) - (Lw g2 0))))) 9 = some (oI (f)) := s2_ne (by decide) (fun _ => rfl) l9
          replace l10 : px_lg (px_s2 lv5 7 (.inr (.inl ((all) - (Lw g2 0))))) 10 = some (oI (s)) := s2_ne (by decide) (fun _ => rfl) l10
          replace l11 : px_lg (px_s2 lv5 7 (.inr (.inl ((all) - (Lw g2 0))))) 11 = some (oI ((a : Int))) := s2_ne (by decide) (fun _ => rfl) l11
          replace l12 : px_lg (px_s2 lv5 7 (.inr (.inl ((all) - (Lw g2 0))))) 12 = some (oI ((b : Int))) := s2_ne (by decide) (fun _ => rfl) l12
          replace l13 : px_lg (px_s2 lv5 7 (.inr (.inl ((all) - (Lw g2 0))))) 13 = some (.inr (.inl (Lw g2 0))) := s2_ne (by decide) (fun z => absurd z (by decide)) l13
          replace l15 : px_lg (px_s2 lv5 7 (.inr (.inl ((all) - (Lw g2 0))))) 15 = some (.inr (.inl ((all) - (Lw g2 0)))) := s2_ne (by decide) (fun z => absurd z (by decide)) l15
          have l7 : px_lg (px_s2 lv5 7 (.inr (.inl ((all) - (Lw g2 0))))) 7 = some (.inr (.inl ((all) - (Lw g2 0)))) := s2_eq
          generalize px_s2 lv5 7 (.inr (.inl ((all) - (Lw g2 0)))) = lv7 at l0 l1 l4 l5 l9 l10 l11 l12 l13 l15 l7 ⊢
          show t_X d 243 184 lv7 [] g2 P
          refine t_0 qsy_184 rfl (ld_i l11) ?_
          refine t_2 qsy_186 rfl (w := (px_s1 lv7 9 (oI ((a : Int))), [])) rfl ?_
          replace l0 : px_lg (px_s1 lv7 9 (oI ((a : Int)))) 0 = some (pvR 196) := s1_ne (by decide) (fun _ => rfl) l0
          replace l1 : px_lg (px_s1 lv7 9 (oI ((a : Int)))) 1 = some (oI (n)) := s1_ne (by decide) (fun _ => rfl) l1
          replace l4 : px_lg (px_s1 lv7 9 (oI ((a : Int)))) 4 = some (oI (w)) := s1_ne (by decide) (fun _ => rfl) l4
          replace l5 : px_lg (px_s1 lv7 9 (oI ((a : Int)))) 5 = some (.inr (.inl (all))) := s1_ne (by decide) (fun z => absurd z (by decide)) l5
          replace l10 : px_lg (px_s1 lv7 9 (oI ((a : Int)))) 10 = some (oI (s)) := s1_ne (by decide) (fun _ => rfl) l10
          replace l11 : px_lg (px_s1 lv7 9 (oI ((a : Int)))) 11 = some (oI ((a : Int))) := s1_ne (by decide) (fun _ => rfl) l11
          replace l12 : px_lg (px_s1 lv7 9 (oI ((a : Int)))) 12 = some (oI ((b : Int))) := s1_ne (by decide) (fun _ => rfl) l12
          replace l13 : px_lg (px_s1 lv7 9 (oI ((a : Int)))) 13 = some (.inr (.inl (Lw g2 0))) := s1_ne (by decide) (fun z => absurd z (by decide)) l13
          replace l15 : px_lg (px_s1 lv7 9 (oI ((a : Int)))) 15 = some (.inr (.inl ((all) - (Lw g2 0)))) := s1_ne (by decide) (fun z => absurd z (by decide)) l15
          replace l7 : px_lg (px_s1 lv7 9 (oI ((a : Int)))) 7 = some (.inr (.inl ((all) - (Lw g2 0)))) := s1_ne (by decide) (fun z => absurd z (by decide)) l7
          have l9 : px_lg (px_s1 lv7 9 (oI ((a : Int)))) 9 = some (oI ((a : Int))) := s1_eq
          generalize px_s1 lv7 9 (oI ((a : Int))) = lv8 at l0 l1 l4 l5 l10 l11 l12 l13 l15 l7 l9 ⊢
          show t_X d 243 188 lv8 [] g2 P
          refine t_0 qsy_188 rfl (ld_i l12) ?_
          refine t_2 qsy_190 rfl (w := (px_s1 lv8 10 (oI ((b : Int))), [])) rfl ?_
          replace l0 : px_lg (px_s1 lv8 10 (oI ((b : Int)))) 0 = some (pvR 196) := s1_ne (by decide) (fun _ => rfl) l0
          replace l1 : px_lg (px_s1 lv8 10 (oI ((b : Int)))) 1 = some (oI (n)) := s1_ne (by decide) (fun _ => rfl) l1
          replace l4 : px_lg (px_s1 lv8 10 (oI ((b : Int)))) 4 = some (oI (w)) := s1_ne (by decide) (fun _ => rfl) l4
          replace l5 : px_lg (px_s1 lv8 10 (oI ((b : Int)))) 5 = some (.inr (.inl (all))) := s1_ne (by decide) (fun z => absurd z (by decide)) l5
          replace l11 : px_lg (px_s1 lv8 10 (oI ((b : Int)))) 11 = some (oI ((a : Int))) := s1_ne (by decide) (fun _ => rfl) l11
          replace l12 : px_lg (px_s1 lv8 10 (oI ((b : Int)))) 12 = some (oI ((b : Int))) := s1_ne (by decide) (fun _ => rfl) l12
          replace l13 : px_lg (px_s1 lv8 10 (oI ((b : Int)))) 13 = some (.inr (.inl (Lw g2 0))) := s1_ne (by decide) (fun z => absurd z (by decide)) l13
          replace l15 : px_lg (px_s1 lv8 10 (oI ((b : Int)))) 15 = some (.inr (.inl ((all) - (Lw g2 0)))) := s1_ne (by decide) (fun z => absurd z (by decide)) l15
          replace l7 : px_lg (px_s1 lv8 10 (oI ((b : Int)))) 7 = some (.inr (.inl ((all) - (Lw g2 0)))) := s1_ne (by decide) (fun z => absurd z (by decide)) l7
          replace l9 : px_lg (px_s1 lv8 10 (oI ((b : Int)))) 9 = some (oI ((a : Int))) := s1_ne (by decide) (fun _ => rfl) l9
          have l10 : px_lg (px_s1 lv8 10 (oI ((b : Int)))) 10 = some (oI ((b : Int))) := s1_eq
          generalize px_s1 lv8 10 (oI ((b : Int))) = lv9 at l0 l1 l4 l5 l11 l12 l13 l15 l7 l9 l10 ⊢
          show t_X d 243 192 lv9 [] g2 P
          refine t_2 qsy_192 rfl (w := (px_s1 lv9 12 (oI ((b : Int) + 1)), [])) (pq_inc l12 (by decide)) ?_
          replace l0 : px_lg (px_s1 lv9 12 (oI ((b : Int) + 1))) 0 = some (pvR 196) := s1_ne (by decide) (fun _ => rfl) l0
          replace l1 : px_lg (px_s1 lv9 12 (oI ((b : Int) + 1))) 1 = some (oI (n)) := s1_ne (by decide) (fun _ => rfl) l1
          replace l4 : px_lg (px_s1 lv9 12 (oI ((b : Int) + 1))) 4 = some (oI (w)) := s1_ne (by decide) (fun _ => rfl) l4
          replace l5 : px_lg (px_s1 lv9 12 (oI ((b : Int) + 1))) 5 = some (.inr (.inl (all))) := s1_ne (by decide) (fun z => absurd z (by decide)) l5
          replace l11 : px_lg (px_s1 lv9 12 (oI ((b : Int) + 1))) 11 = some (oI ((a : Int))) := s1_ne (by decide) (fun _ => rfl) l11
          replace l13 : px_lg (px_s1 lv9 12 (oI ((b : Int) + 1))) 13 = some (.inr (.inl (Lw g2 0))) := s1_ne (by decide) (fun z => absurd z (by decide)) l13
          replace l15 : px_lg (px_s1 lv9 12 (oI ((b : Int) + 1))) 15 = some (.inr (.inl ((all) - (Lw g2 0)))) := s1_ne (by decide) (fun z => absurd z (by decide)) l15
          replace l7 : px_lg (px_s1 lv9 12 (oI ((b : Int) + 1))) 7 = some (.inr (.inl ((all) - (Lw g2 0)))) := s1_ne (by decide) (fun z => absurd z (by decide)) l7
          replace l9 : px_lg (px_s1 lv9 12 (oI ((b : Int) + 1))) 9 = some (oI ((a : Int))) := s1_ne (by decide) (fun _ => rfl) l9
          replace l10 : px_lg (px_s1 lv9 12 (oI ((b : Int) + 1))) 10 = some (oI ((b : Int))) := s1_ne (by decide) (fun _ => rfl) l10
          have l12 : px_lg (px_s1 lv9 12 (oI ((b : Int) + 1))) 12 = some (oI ((b : Int) + 1)) := s1_eq
          generalize px_s1 lv9 12 (oI ((b : Int) + 1)) = lv10 at l0 l1 l4 l5 l11 l13 l15 l7 l9 l10 l12 ⊢
          show t_X d 243 195 lv10 [] g2 P
          refine t_1 qsy_195 rfl (pb_goto (pc := 195) (by decide)) ?_
          show t_X d 243 130 lv10 [] g2 P
          exact ih (b + 1) _ _ _ _ _ (by omega) (by omega) (by omega) hJ2 (by rw [fF_M hA2.2 Wo_1.2.2.2.1, h71]) l0 l1 l4 l5 l7 l9 l10 l11 l12
        · show t_X d 243 177 lv5 [] g2 P
          refine t_1 qsy_177 rfl (pb_goto (pc := 177) (by decide)) ?_
          show t_X d 243 192 lv5 [] g2 P
          refine t_2 qsy_192 rfl (w := (px_s1 lv5 12 (oI ((b : Int) + 1)), [])) (pq_inc l12 (by decide)) ?_
          replace l0 : px_lg (px_s1 lv5 12 (oI ((b : Int) + 1))) 0 = some (pvR 196) := s1_ne (by decide) (fun _ => rfl) l0
          replace l1 : px_lg (px_s1 lv5 12 (oI ((b : Int) + 1))) 1 = some (oI (n)) := s1_ne (by decide) (fun _ => rfl) l1
          replace l4 : px_lg (px_s1 lv5 12 (oI ((b : Int) + 1))) 4 = some (oI (w)) := s1_ne (by decide) (fun _ => rfl) l4
          replace l5 : px_lg (px_s1 lv5 12 (oI ((b : Int) + 1))) 5 = some (.inr (.inl (all))) := s1_ne (by decide) (fun z => absurd z (by decide)) l5
          replace l7 : px_lg (px_s1 lv5 12 (oI ((b : Int) + 1))) 7 = some (.inr (.inl (most))) := s1_ne (by decide) (fun z => absurd z (by decide)) l7
          replace l9 : px_lg (px_s1 lv5 12 (oI ((b : Int) + 1))) 9 = some (oI (f)) := s1_ne (by decide) (fun _ => rfl) l9
          replace l10 : px_lg (px_s1 lv5 12 (oI ((b : Int) + 1))) 10 = some (oI (s)) := s1_ne (by decide) (fun _ => rfl) l10
          replace l11 : px_lg (px_s1 lv5 12 (oI ((b : Int) + 1))) 11 = some (oI ((a : Int))) := s1_ne (by decide) (fun _ => rfl) l11
          replace l13 : px_lg (px_s1 lv5 12 (oI ((b : Int) + 1))) 13 = some (.inr (.inl (Lw g2 0))) := s1_ne (by decide) (fun z => absurd z (by decide)) l13
          replace l15 : px_lg (px_s1 lv5 12 (oI ((b : Int) + 1))) 15 = some (.inr (.inl ((all) - (Lw g2 0)))) := s1_ne (by decide) (fun z => absurd z (by decide)) l15
          have l12 : px_lg (px_s1 lv5 12 (oI ((b : Int) + 1))) 12 = some (oI ((b : Int) + 1)) := s1_eq
          generalize px_s1 lv5 12 (oI ((b : Int) + 1)) = lv11 at l0 l1 l4 l5 l7 l9 l10 l11 l13 l15 l12 ⊢
          show t_X d 243 195 lv11 [] g2 P
          refine t_1 qsy_195 rfl (pb_goto (pc := 195) (by decide)) ?_
          show t_X d 243 130 lv11 [] g2 P
          exact ih (b + 1) _ _ _ _ _ (by omega) (by omega) (by omega) hJ2 (by rw [fF_M hA2.2 Wo_1.2.2.2.1, h71]) l0 l1 l4 l5 l7 l9 l10 l11 l12
      · show t_X d 243 157 lv3 [] g2 P
        refine t_0 qsy_157 rfl (ld_l l13) ?_
        refine t_1 qsy_159 rfl (pb_goto (pc := 159) (by decide)) ?_
        show t_X d 243 167 lv3 [.inr (.inl (Lw g2 0))] g2 P
        refine t_2 qsy_167 rfl (w := (px_s2 lv3 15 (.inr (.inl (Lw g2 0))), [])) rfl ?_
        replace l0 : px_lg (px_s2 lv3 15 (.inr (.inl (Lw g2 0)))) 0 = some (pvR 196) := s2_ne (by decide) (fun _ => rfl) l0
        replace l1 : px_lg (px_s2 lv3 15 (.inr (.inl (Lw g2 0)))) 1 = some (oI (n)) := s2_ne (by decide) (fun _ => rfl) l1
        replace l4 : px_lg (px_s2 lv3 15 (.inr (.inl (Lw g2 0)))) 4 = some (oI (w)) := s2_ne (by decide) (fun _ => rfl) l4
        replace l5 : px_lg (px_s2 lv3 15 (.inr (.inl (Lw g2 0)))) 5 = some (.inr (.inl (all))) := s2_ne (by decide) (fun z => absurd z (by decide)) l5
        replace l7 : px_lg (px_s2 lv3 15 (.inr (.inl (Lw g2 0)))) 7 = some (.inr (.inl (most))) := s2_ne (by decide) (fun z => absurd z (by decide)) l7
        replace l9 : px_lg (px_s2 lv3 15 (.inr (.inl (Lw g2 0)))) 9 = some (oI (f)) := s2_ne (by decide) (fun _ => rfl) l9
        replace l10 : px_lg (px_s2 lv3 15 (.inr (.inl (Lw g2 0)))) 10 = some (oI (s)) := s2_ne (by decide) (fun _ => rfl) l10
        replace l11 : px_lg (px_s2 lv3 15 (.inr (.inl (Lw g2 0)))) 11 = some (oI ((a : Int))) := s2_ne (by decide) (fun _ => rfl) l11
        replace l12 : px_lg (px_s2 lv3 15 (.inr (.inl (Lw g2 0)))) 12 = some (oI ((b : Int))) := s2_ne (by decide) (fun _ => rfl) l12
        replace l13 : px_lg (px_s2 lv3 15 (.inr (.inl (Lw g2 0)))) 13 = some (.inr (.inl (Lw g2 0))) := s2_ne (by decide) (fun z => absurd z (by decide)) l13
        have l15 : px_lg (px_s2 lv3 15 (.inr (.inl (Lw g2 0)))) 15 = some (.inr (.inl (Lw g2 0))) := s2_eq
        generalize px_s2 lv3 15 (.inr (.inl (Lw g2 0))) = lv12 at l0 l1 l4 l5 l7 l9 l10 l11 l12 l13 l15 ⊢
        show t_X d 243 169 lv12 [] g2 P
        refine t_0 qsy_169 rfl (ld_l l15) ?_
        refine t_0 qsy_171 rfl (ld_l l7) ?_
        refine t_0 qsy_173 rfl rfl ?_
        refine tx_gt qsy_174 (by decide) (fun c13 => ?_) (fun c13 => ?_)
        · show t_X d 243 180 lv12 [] g2 P
          refine t_0 qsy_180 rfl (ld_l l15) ?_
          refine t_2 qsy_182 rfl (w := (px_s2 lv12 7 (.inr (.inl (Lw g2 0))), [])) rfl ?_
          replace l0 : px_lg (px_s2 lv12 7 (.inr (.inl (Lw g2 0)))) 0 = some (pvR 196) := s2_ne (by decide) (fun _ => rfl) l0
          replace l1 : px_lg (px_s2 lv12 7 (.inr (.inl (Lw g2 0)))) 1 = some (oI (n)) := s2_ne (by decide) (fun _ => rfl) l1
          replace l4 : px_lg (px_s2 lv12 7 (.inr (.inl (Lw g2 0)))) 4 = some (oI (w)) := s2_ne (by decide) (fun _ => rfl) l4
          replace l5 : px_lg (px_s2 lv12 7 (.inr (.inl (Lw g2 0)))) 5 = some (.inr (.inl (all))) := s2_ne (by decide) (fun z => absurd z (by decide)) l5
          replace l9 : px_lg (px_s2 lv12 7 (.inr (.inl (Lw g2 0)))) 9 = some (oI (f)) := s2_ne (by decide) (fun _ => rfl) l9
          replace l10 : px_lg (px_s2 lv12 7 (.inr (.inl (Lw g2 0)))) 10 = some (oI (s)) := s2_ne (by decide) (fun _ => rfl) l10
          replace l11 : px_lg (px_s2 lv12 7 (.inr (.inl (Lw g2 0)))) 11 = some (oI ((a : Int))) := s2_ne (by decide) (fun _ => rfl) l11
          replace l12 : px_lg (px_s2 lv12 7 (.inr (.inl (Lw g2 0)))) 12 = some (oI ((b : Int))) := s2_ne (by decide) (fun _ => rfl) l12
          replace l13 : px_lg (px_s2 lv12 7 (.inr (.inl (Lw g2 0)))) 13 = some (.inr (.inl (Lw g2 0))) := s2_ne (by decide) (fun z => absurd z (by decide)) l13
          replace l15 : px_lg (px_s2 lv12 7 (.inr (.inl (Lw g2 0)))) 15 = some (.inr (.inl (Lw g2 0))) := s2_ne (by decide) (fun z => absurd z (by decide)) l15
          have l7 : px_lg (px_s2 lv12 7 (.inr (.inl (Lw g2 0)))) 7 = some (.inr (.inl (Lw g2 0))) := s2_eq
          generalize px_s2 lv12 7 (.inr (.inl (Lw g2 0))) = lv14 at l0 l1 l4 l5 l9 l10 l11 l12 l13 l15 l7 ⊢
          show t_X d 243 184 lv14 [] g2 P
          refine t_0 qsy_184 rfl (ld_i l11) ?_
          refine t_2 qsy_186 rfl (w := (px_s1 lv14 9 (oI ((a : Int))), [])) rfl ?_
          replace l0 : px_lg (px_s1 lv14 9 (oI ((a : Int)))) 0 = some (pvR 196) := s1_ne (by decide) (fun _ => rfl) l0
          replace l1 : px_lg (px_s1 lv14 9 (oI ((a : Int)))) 1 = some (oI (n)) := s1_ne (by decide) (fun _ => rfl) l1
          replace l4 : px_lg (px_s1 lv14 9 (oI ((a : Int)))) 4 = some (oI (w)) := s1_ne (by decide) (fun _ => rfl) l4
          replace l5 : px_lg (px_s1 lv14 9 (oI ((a : Int)))) 5 = some (.inr (.inl (all))) := s1_ne (by decide) (fun z => absurd z (by decide)) l5
          replace l10 : px_lg (px_s1 lv14 9 (oI ((a : Int)))) 10 = some (oI (s)) := s1_ne (by decide) (fun _ => rfl) l10
          replace l11 : px_lg (px_s1 lv14 9 (oI ((a : Int)))) 11 = some (oI ((a : Int))) := s1_ne (by decide) (fun _ => rfl) l11
          replace l12 : px_lg (px_s1 lv14 9 (oI ((a : Int)))) 12 = some (oI ((b : Int))) := s1_ne (by decide) (fun _ => rfl) l12
          replace l13 : px_lg (px_s1 lv14 9 (oI ((a : Int)))) 13 = some (.inr (.inl (Lw g2 0))) := s1_ne (by decide) (fun z => absurd z (by decide)) l13
          replace l15 : px_lg (px_s1 lv14 9 (oI ((a : Int)))) 15 = some (.inr (.inl (Lw g2 0))) := s1_ne (by decide) (fun z => absurd z (by decide)) l15
          replace l7 : px_lg (px_s1 lv14 9 (oI ((a : Int)))) 7 = some (.inr (.inl (Lw g2 0))) := s1_ne (by decide) (fun z => absurd z (by decide)) l7
          have l9 : px_lg (px_s1 lv14 9 (oI ((a : Int)))) 9 = some (oI ((a : Int))) := s1_eq
          generalize px_s1 lv14 9 (oI ((a : Int))) = lv15 at l0 l1 l4 l5 l10 l11 l12 l13 l15 l7 l9 ⊢
          show t_X d 243 188 lv15 [] g2 P
          refine t_0 qsy_188 rfl (ld_i l12) ?_
          refine t_2 qsy_190 rfl (w := (px_s1 lv15 10 (oI ((b : Int))), [])) rfl ?_
          replace l0 : px_lg (px_s1 lv15 10 (oI ((b : Int)))) 0 = some (pvR 196) := s1_ne (by decide) (fun _ => rfl) l0
          replace l1 : px_lg (px_s1 lv15 10 (oI ((b : Int)))) 1 = some (oI (n)) := s1_ne (by decide) (fun _ => rfl) l1
          replace l4 : px_lg (px_s1 lv15 10 (oI ((b : Int)))) 4 = some (oI (w)) := s1_ne (by decide) (fun _ => rfl) l4
          replace l5 : px_lg (px_s1 lv15 10 (oI ((b : Int)))) 5 = some (.inr (.inl (all))) := s1_ne (by decide) (fun z => absurd z (by decide)) l5
          replace l11 : px_lg (px_s1 lv15 10 (oI ((b : Int)))) 11 = some (oI ((a : Int))) := s1_ne (by decide) (fun _ => rfl) l11
          replace l12 : px_lg (px_s1 lv15 10 (oI ((b : Int)))) 12 = some (oI ((b : Int))) := s1_ne (by decide) (fun _ => rfl) l12
          replace l13 : px_lg (px_s1 lv15 10 (oI ((b : Int)))) 13 = some (.inr (.inl (Lw g2 0))) := s1_ne (by decide) (fun z => absurd z (by decide)) l13
          replace l15 : px_lg (px_s1 lv15 10 (oI ((b : Int)))) 15 = some (.inr (.inl (Lw g2 0))) := s1_ne (by decide) (fun z => absurd z (by decide)) l15
          replace l7 : px_lg (px_s1 lv15 10 (oI ((b : Int)))) 7 = some (.inr (.inl (Lw g2 0))) := s1_ne (by decide) (fun z => absurd z (by decide)) l7
          replace l9 : px_lg (px_s1 lv15 10 (oI ((b : Int)))) 9 = some (oI ((a : Int))) := s1_ne (by decide) (fun _ => rfl) l9
          have l10 : px_lg (px_s1 lv15 10 (oI ((b : Int)))) 10 = some (oI ((b : Int))) := s1_eq
          generalize px_s1 lv15 10 (oI ((b : Int))) = lv16 at l0 l1 l4 l5 l11 l12 l13 l15 l7 l9 l10 ⊢
          show t_X d 243 192 lv16 [] g2 P
          refine t_2 qsy_192 rfl (w := (px_s1 lv16 12 (oI ((b : Int) + 1)), [])) (pq_inc l12 (by decide)) ?_
          replace l0 : px_lg (px_s1 lv16 12 (oI ((b : Int) + 1))) 0 = some (pvR 196) := s1_ne (by decide) (fun _ => rfl) l0
          replace l1 : px_lg (px_s1 lv16 12 (oI ((b : Int) + 1))) 1 = some (oI (n)) := s1_ne (by decide) (fun _ => rfl) l1
          replace l4 : px_lg (px_s1 lv16 12 (oI ((b : Int) + 1))) 4 = some (oI (w)) := s1_ne (by decide) (fun _ => rfl) l4
          replace l5 : px_lg (px_s1 lv16 12 (oI ((b : Int) + 1))) 5 = some (.inr (.inl (all))) := s1_ne (by decide) (fun z => absurd z (by decide)) l5
          replace l11 : px_lg (px_s1 lv16 12 (oI ((b : Int) + 1))) 11 = some (oI ((a : Int))) := s1_ne (by decide) (fun _ => rfl) l11
          replace l13 : px_lg (px_s1 lv16 12 (oI ((b : Int) + 1))) 13 = some (.inr (.inl (Lw g2 0))) := s1_ne (by decide) (fun z => absurd z (by decide)) l13
          replace l15 : px_lg (px_s1 lv16 12 (oI ((b : Int) + 1))) 15 = some (.inr (.inl (Lw g2 0))) := s1_ne (by decide) (fun z => absurd z (by decide)) l15
          replace l7 : px_lg (px_s1 lv16 12 (oI ((b : Int) + 1))) 7 = some (.inr (.inl (Lw g2 0))) := s1_ne (by decide) (fun z => absurd z (by decide)) l7
          replace l9 : px_lg (px_s1 lv16 12 (oI ((b : Int) + 1))) 9 = some (oI ((a : Int))) := s1_ne (by decide) (fun _ => rfl) l9
          replace l10 : px_lg (px_s1 lv16 12 (oI ((b : Int) + 1))) 10 = some (oI ((b : Int))) := s1_ne (by decide) (fun _ => rfl) l10
          have l12 : px_lg (px_s1 lv16 12 (oI ((b : Int) + 1))) 12 = some (oI ((b : Int) + 1)) := s1_eq
          generalize px_s1 lv16 12 (oI ((b : Int) + 1)) = lv17 at l0 l1 l4 l5 l11 l13 l15 l7 l9 l10 l12 ⊢
          show t_X d 243 195 lv17 [] g2 P
          refine t_1 qsy_195 rfl (pb_goto (pc := 195) (by decide)) ?_
          show t_X d 243 130 lv17 [] g2 P
          exact ih (b + 1) _ _ _ _ _ (by omega) (by omega) (by omega) hJ2 (by rw [fF_M hA2.2 Wo_1.2.2.2.1, h71]) l0 l1 l4 l5 l7 l9 l10 l11 l12
        · show t_X d 243 177 lv12 [] g2 P
          refine t_1 qsy_177 rfl (pb_goto (pc := 177) (by decide)) ?_
          show t_X d 243 192 lv12 [] g2 P
          refine t_2 qsy_192 rfl (w := (px_s1 lv12 12 (oI ((b : Int) + 1)), [])) (pq_inc l12 (by decide)) ?_
          replace l0 : px_lg (px_s1 lv12 12 (oI ((b : Int) + 1))) 0 = some (pvR 196) := s1_ne (by decide) (fun _ => rfl) l0
          replace l1 : px_lg (px_s1 lv12 12 (oI ((b : Int) + 1))) 1 = some (oI (n)) := s1_ne (by decide) (fun _ => rfl) l1
          replace l4 : px_lg (px_s1 lv12 12 (oI ((b : Int) + 1))) 4 = some (oI (w)) := s1_ne (by decide) (fun _ => rfl) l4
          replace l5 : px_lg (px_s1 lv12 12 (oI ((b : Int) + 1))) 5 = some (.inr (.inl (all))) := s1_ne (by decide) (fun z => absurd z (by decide)) l5
          replace l7 : px_lg (px_s1 lv12 12 (oI ((b : Int) + 1))) 7 = some (.inr (.inl (most))) := s1_ne (by decide) (fun z => absurd z (by decide)) l7
          replace l9 : px_lg (px_s1 lv12 12 (oI ((b : Int) + 1))) 9 = some (oI (f)) := s1_ne (by decide) (fun _ => rfl) l9
          replace l10 : px_lg (px_s1 lv12 12 (oI ((b : Int) + 1))) 10 = some (oI (s)) := s1_ne (by decide) (fun _ => rfl) l10
          replace l11 : px_lg (px_s1 lv12 12 (oI ((b : Int) + 1))) 11 = some (oI ((a : Int))) := s1_ne (by decide) (fun _ => rfl) l11
          replace l13 : px_lg (px_s1 lv12 12 (oI ((b : Int) + 1))) 13 = some (.inr (.inl (Lw g2 0))) := s1_ne (by decide) (fun z => absurd z (by decide)) l13
          replace l15 : px_lg (px_s1 lv12 12 (oI ((b : Int) + 1))) 15 = some (.inr (.inl (Lw g2 0))) := s1_ne (by decide) (fun z => absurd z (by decide)) l15
          have l12 : px_lg (px_s1 lv12 12 (oI ((b : Int) + 1))) 12 = some (oI ((b : Int) + 1)) := s1_eq
          generalize px_s1 lv12 12 (oI ((b : Int) + 1)) = lv18 at l0 l1 l4 l5 l7 l9 l10 l11 l13 l15 l12 ⊢
          show t_X d 243 195 lv18 [] g2 P
          refine t_1 qsy_195 rfl (pb_goto (pc := 195) (by decide)) ?_
          show t_X d 243 130 lv18 [] g2 P
          exact ih (b + 1) _ _ _ _ _ (by omega) (by omega) (by omega) hJ2 (by rw [fF_M hA2.2 Wo_1.2.2.2.1, h71]) l0 l1 l4 l5 l7 l9 l10 l11 l12
set_option maxHeartbeats 8000000 in
theorem sy9_a {d : Nat} (hd : 4 ≤ d) {h0 : pH} {n w : Int} (hw : -2147483648 ≤ w ∧ w ≤ 2147483647) (hn : 2 ≤ n ∧ n ≤ 12) {all : Int64} {P : Option pv × pH → Prop} (hP : ∀ (g : pH) (z : Int64), J_ Ws9 h0 g → P (some (.inr (.inl z)), g)) : ∀ (m a : Nat) (g : pH) (most : Int64) (f s : Int) (lv : List (Nat × pv)), n - a ≤ m → (a : Int) ≤ n → (f = -1 ∧ s = -1) ∨ (0 ≤ f ∧ f < 12 ∧ 0 ≤ s ∧ s < 12) → J_ Ws9 h0 g → fF g 71 = (n.toNat : Int) → px_lg lv 0 = some (pvR 196) → px_lg lv 1 = some (oI n) → px_lg lv 4 = some (oI w) → px_lg lv 5 = some (.inr (.inl all)) → px_lg lv 7 = some (.inr (.inl most)) → px_lg lv 9 = some (oI f) → px_lg lv 10 = some (oI s) → px_lg lv 11 = some (oI (a : Int)) → t_X d 243 118 lv [] g P := by
  intro m
  induction m with
  | zero =>
    intro a g most f s lv hm ha hf hJ h71 l0 l1 l4 l5 l7 l9 l10 l11
    refine t_0 qsy_118 rfl (ld_i l11) ?_
    refine t_0 qsy_120 rfl (ld_i l1) ?_
    refine tb_ge qsy_121 (by decide) ⟨by omega, by omega⟩ ⟨by omega, by omega⟩ (fun c1 => ?_) (fun c1 => absurd c1 (by omega))
    show t_X d 243 204 lv [] g P
    refine t_0 qsy_204 rfl (ld_i l9) ?_
    refine t_0 qsy_206 rfl rfl ?_
    refine tb_ne qsy_207 (by decide) ⟨by omega, by omega⟩ ⟨by omega, by omega⟩ (fun c2 => ?_) (fun c2 => ?_)
    · show t_X d 243 216 lv [] g P
      refine t_0 qsy_216 rfl (ld_i l4) ?_
      refine t_0 qsy_218 rfl rfl ?_
      refine tb_ne qsy_219 (by decide) ⟨by omega, by omega⟩ ⟨by omega, by omega⟩ (fun c3 => ?_) (fun c3 => ?_)
      · show t_X d 243 233 lv [] g P
        refine t_0 qsy_233 rfl (ld_i l4) ?_
        refine t_0 qsy_235 rfl rfl ?_
        refine tb_ne qsy_236 (by decide) ⟨by omega, by omega⟩ ⟨by omega, by omega⟩ (fun c4 => ?_) (fun c4 => ?_)
        · show t_X d 243 250 lv [] g P
          refine t_0 qsy_250 rfl (ld_l l7) ?_
          refine t_5 qsy_252 rfl rfl ?_
          exact hP _ _ hJ
        · show t_X d 243 239 lv [] g P
          refine t_0 qsy_239 rfl (ld_a l0) ?_
          refine t_0 qsy_240 rfl (ar_68 hJ.1) ?_
          refine t_0 qsy_243 rfl (ld_i l10) ?_
          refine t_0 qsy_245 rfl (pq_ia el_238 rfl ⟨by omega, by omega⟩) ?_
          have r5 := gb_a hJ.1 el_238 (j := s.toNat) (by omega) ga_238
          refine t_0 qsy_246 rfl rfl ?_
          refine t_1 qsy_247 rfl (pb_goto (pc := 247) (by decide)) ?_
          show t_X d 243 252 lv [.inr (.inl (Int32.toInt64 (Int32.ofInt (fA g 238 s.toNat))))] g P
          refine t_5 qsy_252 rfl rfl ?_
          exact hP _ _ hJ
      · show t_X d 243 222 lv [] g P
        refine t_0 qsy_222 rfl (ld_a l0) ?_
        refine t_0 qsy_223 rfl (ar_68 hJ.1) ?_
        refine t_0 qsy_226 rfl (ld_i l9) ?_
        refine t_0 qsy_228 rfl (pq_ia el_238 rfl ⟨by omega, by omega⟩) ?_
        have r6 := gb_a hJ.1 el_238 (j := f.toNat) (by omega) ga_238
        refine t_0 qsy_229 rfl rfl ?_
        refine t_1 qsy_230 rfl (pb_goto (pc := 230) (by decide)) ?_
        show t_X d 243 252 lv [.inr (.inl (Int32.toInt64 (Int32.ofInt (fA g 238 f.toNat))))] g P
        refine t_5 qsy_252 rfl rfl ?_
        exact hP _ _ hJ
    · show t_X d 243 210 lv [] g P
      refine t_0 qsy_210 rfl rfl ?_
      refine t_1 qsy_213 rfl (pb_goto (pc := 213) (by decide)) ?_
      show t_X d 243 252 lv [.inr (.inl (xe_k 9223372036854775806))] g P
      refine t_5 qsy_252 rfl rfl ?_
      exact hP _ _ hJ
  | succ m ih =>
    intro a g most f s lv hm ha hf hJ h71 l0 l1 l4 l5 l7 l9 l10 l11
    by_cases hge : n ≤ a
    · refine t_0 qsy_118 rfl (ld_i l11) ?_
      refine t_0 qsy_120 rfl (ld_i l1) ?_
      refine tb_ge qsy_121 (by decide) ⟨by omega, by omega⟩ ⟨by omega, by omega⟩ (fun c1 => ?_) (fun c1 => absurd c1 (by omega))
      show t_X d 243 204 lv [] g P
      refine t_0 qsy_204 rfl (ld_i l9) ?_
      refine t_0 qsy_206 rfl rfl ?_
      refine tb_ne qsy_207 (by decide) ⟨by omega, by omega⟩ ⟨by omega, by omega⟩ (fun c2 => ?_) (fun c2 => ?_)
      · show t_X d 243 216 lv [] g P
        refine t_0 qsy_216 rfl (ld_i l4) ?_
        refine t_0 qsy_218 rfl rfl ?_
        refine tb_ne qsy_219 (by decide) ⟨by omega, by omega⟩ ⟨by omega, by omega⟩ (fun c3 => ?_) (fun c3 => ?_)
        · show t_X d 243 233 lv [] g P
          refine t_0 qsy_233 rfl (ld_i l4) ?_
          refine t_0 qsy_235 rfl rfl ?_
          refine tb_ne qsy_236 (by decide) ⟨by omega, by omega⟩ ⟨by omega, by omega⟩ (fun c4 => ?_) (fun c4 => ?_)
          · show t_X d 243 250 lv [] g P
            refine t_0 qsy_250 rfl (ld_l l7) ?_
            refine t_5 qsy_252 rfl rfl ?_
            exact hP _ _ hJ
          · show t_X d 243 239 lv [] g P
            refine t_0 qsy_239 rfl (ld_a l0) ?_
            refine t_0 qsy_240 rfl (ar_68 hJ.1) ?_
            refine t_0 qsy_243 rfl (ld_i l10) ?_
            refine t_0 qsy_245 rfl (pq_ia el_238 rfl ⟨by omega, by omega⟩) ?_
            have r5 := gb_a hJ.1 el_238 (j := s.toNat) (by omega) ga_238
            refine t_0 qsy_246 rfl rfl ?_
            refine t_1 qsy_247 rfl (pb_goto (pc := 247) (by decide)) ?_
            show t_X d 243 252 lv [.inr (.inl (Int32.toInt64 (Int32.ofInt (fA g 238 s.toNat))))] g P
            refine t_5 qsy_252 rfl rfl ?_
            exact hP _ _ hJ
        · show t_X d 243 222 lv [] g P
          refine t_0 qsy_222 rfl (ld_a l0) ?_
          refine t_0 qsy_223 rfl (ar_68 hJ.1) ?_
          refine t_0 qsy_226 rfl (ld_i l9) ?_
          refine t_0 qsy_228 rfl (pq_ia el_238 rfl ⟨by omega, by omega⟩) ?_
          have r6 := gb_a hJ.1 el_238 (j := f.toNat) (by omega) ga_238
          refine t_0 qsy_229 rfl rfl ?_
          refine t_1 qsy_230 rfl (pb_goto (pc := 230) (by decide)) ?_
          show t_X d 243 252 lv [.inr (.inl (Int32.toInt64 (Int32.ofInt (fA g 238 f.toNat))))] g P
          refine t_5 qsy_252 rfl rfl ?_
          exact hP _ _ hJ
      · show t_X d 243 210 lv [] g P
        refine t_0 qsy_210 rfl rfl ?_
        refine t_1 qsy_213 rfl (pb_goto (pc := 213) (by decide)) ?_
        show t_X d 243 252 lv [.inr (.inl (xe_k 9223372036854775806))] g P
        refine t_5 qsy_252 rfl rfl ?_
        exact hP _ _ hJ
    refine t_0 qsy_118 rfl (ld_i l11) ?_
    refine t_0 qsy_120 rfl (ld_i l1) ?_
    refine tb_ge qsy_121 (by decide) ⟨by omega, by omega⟩ ⟨by omega, by omega⟩ (fun c1 => absurd c1 (by omega)) (fun c1 => ?_)
    show t_X d 243 124 lv [] g P
    refine t_0 qsy_124 rfl (ld_i l11) ?_
    refine t_0 qsy_126 rfl rfl ?_
    refine t_0 qsy_127 rfl pq_add ?_
    refine t_2 qsy_128 rfl (w := (px_s1 lv 12 (oI ((a : Int) + 1)), [])) rfl ?_
    replace l0 : px_lg (px_s1 lv 12 (oI ((a : Int) + 1))) 0 = some (pvR 196) := s1_ne (by decide) (fun _ => rfl) l0
    replace l1 : px_lg (px_s1 lv 12 (oI ((a : Int) + 1))) 1 = some (oI (n)) := s1_ne (by decide) (fun _ => rfl) l1
    replace l4 : px_lg (px_s1 lv 12 (oI ((a : Int) + 1))) 4 = some (oI (w)) := s1_ne (by decide) (fun _ => rfl) l4
    replace l5 : px_lg (px_s1 lv 12 (oI ((a : Int) + 1))) 5 = some (.inr (.inl (all))) := s1_ne (by decide) (fun z => absurd z (by decide)) l5
    replace l7 : px_lg (px_s1 lv 12 (oI ((a : Int) + 1))) 7 = some (.inr (.inl (most))) := s1_ne (by decide) (fun z => absurd z (by decide)) l7
    replace l9 : px_lg (px_s1 lv 12 (oI ((a : Int) + 1))) 9 = some (oI (f)) := s1_ne (by decide) (fun _ => rfl) l9
    replace l10 : px_lg (px_s1 lv 12 (oI ((a : Int) + 1))) 10 = some (oI (s)) := s1_ne (by decide) (fun _ => rfl) l10
    replace l11 : px_lg (px_s1 lv 12 (oI ((a : Int) + 1))) 11 = some (oI ((a : Int))) := s1_ne (by decide) (fun _ => rfl) l11
    have l12 : px_lg (px_s1 lv 12 (oI ((a : Int) + 1))) 12 = some (oI ((a : Int) + 1)) := s1_eq
    generalize px_s1 lv 12 (oI ((a : Int) + 1)) = lv2 at l0 l1 l4 l5 l7 l9 l10 l11 l12 ⊢
    show t_X d 243 130 lv2 [] g P
    refine sy9_b hd hn (a := a) (by omega) (fun g9 most9 f9 s9 lv9 hf9 hJ9 k9 u0 u1 u4 u5 u7 u9 u10 u11 => ?_) 12 (a + 1) _ _ _ _ _ (by omega) (by omega) hf hJ h71 l0 l1 l4 l5 l7 l9 l10 l11 l12
    refine t_2 qsy_198 rfl (w := (px_s1 lv9 11 (oI ((a : Int) + 1)), [])) (pq_inc u11 (by decide)) ?_
    refine t_1 qsy_201 rfl (pb_goto (pc := 201) (by decide)) ?_
    show t_X d 243 118 _ [] g9 P
    exact ih (a + 1) _ _ _ _ _ (by omega) (by omega) hf9 hJ9 k9 (s1_ne (by decide) (fun _ => rfl) u0) (s1_ne (by decide) (fun _ => rfl) u1) (s1_ne (by decide) (fun _ => rfl) u4) (s1_ne (by decide) (fun z => absurd z (by decide)) u5) (s1_ne (by decide) (fun z => absurd z (by decide)) u7) (s1_ne (by decide) (fun _ => rfl) u9) (s1_ne (by decide) (fun _ => rfl) u10) s1_eq
set_option maxHeartbeats 8000000 in
theorem sp9_run {d : Nat} (hd : 8 ≤ d) {g : pH} (hG : g_I eG g) {n w : Int} (hn : -2147483648 ≤ n ∧ n ≤ 2147483647) (hw : -2147483648 ≤ w ∧ w ≤ 2147483647) {P : Option pv × pH → Prop} (hA : (2 ≤ n ∧ n ≤ 12) ∧ n ≤ fF g 17 → ∀ (g1 : pH) (z : Int64), J_ Ws g g1 → fF g1 17 = 0 → P (some (.inr (.inl z)), g1)) (hR : ∀ z : Int64, ¬ ((2 ≤ n ∧ n ≤ 12) ∧ n ≤ fF g 17) → P (some (.inr (.inl z)), g)) {lv : List (Nat × pv)} (l0 : px_lg lv 0 = some (pvR 196)) (l1 : px_lg lv 1 = some (oI n)) (l2 : px_lg lv 2 = some (oI w)) : t_X d 254 0 lv [] g P := by
  have w_17 := Ws_1.1
  have hJ0 : J_ Ws g g := J_rf hG
  refine t_0 qsp_0 rfl (ld_i l1) ?_
  refine t_0 qsp_1 rfl rfl ?_
  refine t_0 qsp_2 rfl (pq_b (by decide)) ?_
  refine t_3 qsp_4 rfl (ar := ([oI (n), oI (2), oI (12)], [])) (pcal_s ⟨Or.inl rfl, rfl, Nat.le_of_ble_eq_true rfl⟩) ⟨by omega, Nat.le_of_ble_eq_true rfl, Nat.le_of_ble_eq_true rfl, rfl⟩ ?_
  refine in_run ⟨by omega, by omega⟩ ⟨by omega, by omega⟩ ⟨by omega, by omega⟩ rfl rfl rfl (fun t1 => ?_) (fun t1 => ?_)
  · show t_X d 254 7 lv [oI (1)] g P
    refine tz_eq qsp_7 (by decide) ⟨by omega, by omega⟩ (fun c2 => absurd c2 (by omega)) (fun c2 => ?_)
    show t_X d 254 10 lv [] g P
    refine t_0 qsp_10 rfl (ld_i l1) ?_
    refine t_0 qsp_11 rfl (ld_a l0) ?_
    have r3 := gb_f hJ0.1 (y := 17) rfl rfl gf_17
    refine t_0 qsp_12 rfl (pq_gf (y := 17) rfl) ?_
    refine tb_le qsp_15 (by decide) ⟨by omega, by omega⟩ ⟨by omega, by omega⟩ (fun c4 => ?_) (fun c4 => ?_)
    · show t_X d 254 22 lv [] g P
      refine t_0 qsp_22 rfl (ld_a l0) ?_
      refine t_0 qsp_23 rfl rfl ?_
      refine tw_f qsp_24 rfl hJ0 w_17 gf_17 (by decide) ⟨by omega, by omega⟩ (fun g5 hJ5 v5 f5 a5 => ?_)
      have hP : ∀ (g1 : pH) (z : Int64), J_ Ws9 g5 g1 → P (some (.inr (.inl z)), g1) := fun g1 z h => hA (by omega) g1 z (J_up Ws9_2 hJ5 h) ((fF_M h.2 Ws9_1.1).trans v5)
      replace hJ5 : J_ Ws9 g5 g5 := J_rf hJ5.1
      replace a5 := fA_2 a5
      show t_X d 254 27 lv [] g5 P
      refine t_0 qsp_27 rfl (ld_a l0) ?_
      refine t_0 qsp_28 rfl (ld_i l1) ?_
      refine t_3 qsp_29 rfl (ar := ([pvR 196, oI (n)], [])) (pcal_v1 rfl rfl el_196) ⟨by omega, Nat.le_of_ble_eq_true rfl, Nat.le_of_ble_eq_true rfl, rfl⟩ ?_
      refine ts_run (by omega) hJ5.1 (by rw [oT (by omega) (by omega)]; omega) rfl rfl (fun g6 hA6 => ?_) (fun g6 hA6 e6 => ?_)
      · have hJ6 := J_up Ws9_1.2.2.1 hJ5 hA6
        show t_X d 254 32 lv [oI (0)] g6 P
        refine tz_ne qsp_32 (by decide) ⟨by omega, by omega⟩ (fun c7 => absurd c7 (by omega)) (fun c7 => ?_)
        show t_X d 254 35 lv [] g6 P
        refine t_0 qsp_35 rfl rfl ?_
        refine t_5 qsp_38 rfl rfl ?_
        exact hP _ _ hJ6
      · have hJ6 := J_up Ws9_1.2.2.1 hJ5 hA6
        have h71 : fF g6 71 = (n.toNat : Int) := by
          show (g6.1 196 71).toInt = _
          rw [e6, oT (by omega) (by omega)]
          omega
        show t_X d 254 32 lv [oI (1)] g6 P
        refine tz_ne qsp_32 (by decide) ⟨by omega, by omega⟩ (fun c8 => ?_) (fun c8 => absurd c8 (by omega))
        show t_X d 254 39 lv [] g6 P
        refine t_0 qsp_39 rfl (ld_i l2) ?_
        have hs2 : n.toNat ≤ 12 := by omega
        refine t_0 qsp_40 rfl rfl ?_
        refine t_0 qsp_41 rfl (ld_i l1) ?_
        refine t_0 qsp_42 rfl rfl ?_
        refine t_0 qsp_43 rfl pq_sub ?_
        refine t_3 qsp_44 rfl (ar := ([oI (w), oI ((-1)), oI (n - 1)], [])) (pcal_s ⟨Or.inl rfl, rfl, Nat.le_of_ble_eq_true rfl⟩) ⟨by omega, Nat.le_of_ble_eq_true rfl, Nat.le_of_ble_eq_true rfl, rfl⟩ ?_
        refine in_run ⟨by omega, by omega⟩ ⟨by omega, by omega⟩ ⟨by omega, by omega⟩ rfl rfl rfl (fun t9 => ?_) (fun t9 => ?_)
        · show t_X d 254 47 lv [oI (1)] g6 P
          refine tz_ne qsp_47 (by decide) ⟨by omega, by omega⟩ (fun c10 => ?_) (fun c10 => absurd c10 (by omega))
          show t_X d 254 54 lv [] g6 P
          refine t_0 qsp_54 rfl (ld_a l0) ?_
          refine t_0 qsp_55 rfl rfl ?_
          refine t_0 qsp_56 rfl rfl ?_
          refine t_3 qsp_57 rfl (ar := ([pvR 196, oI ((-1)), oI ((-1))], [])) (pcal_v2 rfl rfl el_196) ⟨by omega, Nat.le_of_ble_eq_true rfl, Nat.le_of_ble_eq_true rfl, rfl⟩ ?_
          refine lo_run (by omega) hs2 h71 (Or.inl rfl) (fun g11 hA11 hZ11 => ?_) hJ6.1 rfl rfl rfl
          have hJ11 := J_up Ws9_1.2.2.2 hJ6 hA11
          show t_X d 254 60 lv [.inr (.inl (Lw g11 0))] g11 P
          refine t_2 qsp_60 rfl (w := (px_s2 lv 3 (.inr (.inl (Lw g11 0))), [])) rfl ?_
          replace l0 : px_lg (px_s2 lv 3 (.inr (.inl (Lw g11 0)))) 0 = some (pvR 196) := s2_ne (by decide) (fun _ => rfl) l0
          replace l1 : px_lg (px_s2 lv 3 (.inr (.inl (Lw g11 0)))) 1 = some (oI (n)) := s2_ne (by decide) (fun _ => rfl) l1
          replace l2 : px_lg (px_s2 lv 3 (.inr (.inl (Lw g11 0)))) 2 = some (oI (w)) := s2_ne (by decide) (fun _ => rfl) l2
          have l3 : px_lg (px_s2 lv 3 (.inr (.inl (Lw g11 0)))) 3 = some (.inr (.inl (Lw g11 0))) := s2_eq
          generalize px_s2 lv 3 (.inr (.inl (Lw g11 0))) = lv12 at l0 l1 l2 l3 ⊢
          show t_X d 254 61 lv12 [] g11 P
          refine t_0 qsp_61 rfl (ld_i l2) ?_
          refine t_0 qsp_62 rfl rfl ?_
          refine tb_ne qsp_63 (by decide) ⟨by omega, by omega⟩ ⟨by omega, by omega⟩ (fun c13 => ?_) (fun c13 => ?_)
          · show t_X d 254 68 lv12 [] g11 P
            refine t_0 qsp_68 rfl (ld_l l3) ?_
            refine t_0 qsp_69 rfl rfl ?_
            refine t_0 qsp_70 rfl rfl ?_
            refine tx_ne qsp_71 (by decide) (fun c14 => ?_) (fun c14 => ?_)
            · show t_X d 254 78 lv12 [] g11 P
              refine t_0 qsp_78 rfl rfl ?_
              refine t_2 qsp_79 rfl (w := (px_s1 lv12 5 (oI (0)), [])) rfl ?_
              replace l0 : px_lg (px_s1 lv12 5 (oI (0))) 0 = some (pvR 196) := s1_ne (by decide) (fun _ => rfl) l0
              replace l1 : px_lg (px_s1 lv12 5 (oI (0))) 1 = some (oI (n)) := s1_ne (by decide) (fun _ => rfl) l1
              replace l2 : px_lg (px_s1 lv12 5 (oI (0))) 2 = some (oI (w)) := s1_ne (by decide) (fun _ => rfl) l2
              replace l3 : px_lg (px_s1 lv12 5 (oI (0))) 3 = some (.inr (.inl (Lw g11 0))) := s1_ne (by decide) (fun z => absurd z (by decide)) l3
              have l5 : px_lg (px_s1 lv12 5 (oI (0))) 5 = some (oI (0)) := s1_eq
              generalize px_s1 lv12 5 (oI (0)) = lv15 at l0 l1 l2 l3 l5 ⊢
              show t_X d 254 81 lv15 [] g11 P
              refine t_0 qsp_81 rfl rfl ?_
              refine t_2 qsp_82 rfl (w := (px_s1 lv15 6 (oI (0)), [])) rfl ?_
              replace l0 : px_lg (px_s1 lv15 6 (oI (0))) 0 = some (pvR 196) := s1_ne (by decide) (fun _ => rfl) l0
              replace l1 : px_lg (px_s1 lv15 6 (oI (0))) 1 = some (oI (n)) := s1_ne (by decide) (fun _ => rfl) l1
              replace l2 : px_lg (px_s1 lv15 6 (oI (0))) 2 = some (oI (w)) := s1_ne (by decide) (fun _ => rfl) l2
              replace l3 : px_lg (px_s1 lv15 6 (oI (0))) 3 = some (.inr (.inl (Lw g11 0))) := s1_ne (by decide) (fun z => absurd z (by decide)) l3
              replace l5 : px_lg (px_s1 lv15 6 (oI (0))) 5 = some (oI (0)) := s1_ne (by decide) (fun _ => rfl) l5
              have l6 : px_lg (px_s1 lv15 6 (oI (0))) 6 = some (oI (0)) := s1_eq
              generalize px_s1 lv15 6 (oI (0)) = lv16 at l0 l1 l2 l3 l5 l6 ⊢
              show t_X d 254 84 lv16 [] g11 P
              refine t_0 qsp_84 rfl rfl ?_
              refine t_2 qsp_85 rfl (w := (px_s1 lv16 7 (oI (0)), [])) rfl ?_
              replace l0 : px_lg (px_s1 lv16 7 (oI (0))) 0 = some (pvR 196) := s1_ne (by decide) (fun _ => rfl) l0
              replace l1 : px_lg (px_s1 lv16 7 (oI (0))) 1 = some (oI (n)) := s1_ne (by decide) (fun _ => rfl) l1
              replace l2 : px_lg (px_s1 lv16 7 (oI (0))) 2 = some (oI (w)) := s1_ne (by decide) (fun _ => rfl) l2
              replace l3 : px_lg (px_s1 lv16 7 (oI (0))) 3 = some (.inr (.inl (Lw g11 0))) := s1_ne (by decide) (fun z => absurd z (by decide)) l3
              replace l5 : px_lg (px_s1 lv16 7 (oI (0))) 5 = some (oI (0)) := s1_ne (by decide) (fun _ => rfl) l5
              replace l6 : px_lg (px_s1 lv16 7 (oI (0))) 6 = some (oI (0)) := s1_ne (by decide) (fun _ => rfl) l6
              have l7 : px_lg (px_s1 lv16 7 (oI (0))) 7 = some (oI (0)) := s1_eq
              generalize px_s1 lv16 7 (oI (0)) = lv17 at l0 l1 l2 l3 l5 l6 l7 ⊢
              show t_X d 254 87 lv17 [] g11 P
              exact sp_q (by omega) hs2 (J_rf hJ11.1) (w := w) (by omega) hZ11 (fun z => hP _ z hJ11) (w + 1).toNat 0 0 0 _ (by omega) (by omega) (by decide) ⟨Nat.two_pow_pos _, by decide⟩ (fun z => c14 (lg_0.mpr z)) l0 l2 l5 l6 l7
            · show t_X d 254 74 lv12 [] g11 P
              refine t_0 qsp_74 rfl rfl ?_
              refine t_5 qsp_77 rfl rfl ?_
              exact hP _ _ hJ11
          · show t_X d 254 66 lv12 [] g11 P
            refine t_0 qsp_66 rfl (ld_l l3) ?_
            refine t_5 qsp_67 rfl rfl ?_
            exact hP _ _ hJ11
        · show t_X d 254 47 lv [oI (0)] g6 P
          refine tz_ne qsp_47 (by decide) ⟨by omega, by omega⟩ (fun c18 => absurd c18 (by omega)) (fun c18 => ?_)
          show t_X d 254 50 lv [] g6 P
          refine t_0 qsp_50 rfl rfl ?_
          refine t_5 qsp_53 rfl rfl ?_
          exact hP _ _ hJ6
    · show t_X d 254 18 lv [] g P
      refine t_0 qsp_18 rfl rfl ?_
      refine t_5 qsp_21 rfl rfl ?_
      exact hR _ (by omega)
  · show t_X d 254 7 lv [oI (0)] g P
    refine tz_eq qsp_7 (by decide) ⟨by omega, by omega⟩ (fun c19 => ?_) (fun c19 => absurd c19 (by omega))
    show t_X d 254 18 lv [] g P
    refine t_0 qsp_18 rfl rfl ?_
    refine t_5 qsp_21 rfl rfl ?_
    exact hR _ (by omega)
set_option maxHeartbeats 8000000 in
theorem sy9_run {d : Nat} (hd : 8 ≤ d) {g : pH} (hG : g_I eG g) {n i j w : Int} (hn : -2147483648 ≤ n ∧ n ≤ 2147483647) (hi : -2147483648 ≤ i ∧ i ≤ 2147483647) (hj : -2147483648 ≤ j ∧ j ≤ 2147483647) (hw : -2147483648 ≤ w ∧ w ≤ 2147483647) {P : Option pv × pH → Prop} (hA : (2 ≤ n ∧ n ≤ 12) ∧ (0 ≤ w ∧ w ≤ 3) ∧ n ≤ fF g 17 → ∀ (g1 : pH) (z : Int64), J_ Ws g g1 → fF g1 17 = 0 → P (some (.inr (.inl z)), g1)) (hR : ∀ z : Int64, ¬ ((2 ≤ n ∧ n ≤ 12) ∧ (0 ≤ w ∧ w ≤ 3) ∧ n ≤ fF g 17) → P (some (.inr (.inl z)), g)) {lv : List (Nat × pv)} (l0 : px_lg lv 0 = some (pvR 196)) (l1 : px_lg lv 1 = some (oI n)) (l2 : px_lg lv 2 = some (oI i)) (l3 : px_lg lv 3 = some (oI j)) (l4 : px_lg lv 4 = some (oI w)) : t_X d 243 0 lv [] g P := by
  have w_17 := Ws_1.1
  have hJ0 : J_ Ws g g := J_rf hG
  refine t_0 qsy_0 rfl (ld_i l1) ?_
  refine t_0 qsy_1 rfl rfl ?_
  refine t_0 qsy_2 rfl (pq_b (by decide)) ?_
  refine t_3 qsy_4 rfl (ar := ([oI (n), oI (2), oI (12)], [])) (pcal_s ⟨Or.inl rfl, rfl, Nat.le_of_ble_eq_true rfl⟩) ⟨by omega, Nat.le_of_ble_eq_true rfl, Nat.le_of_ble_eq_true rfl, rfl⟩ ?_
  refine in_run ⟨by omega, by omega⟩ ⟨by omega, by omega⟩ ⟨by omega, by omega⟩ rfl rfl rfl (fun t1 => ?_) (fun t1 => ?_)
  · show t_X d 243 7 lv [oI (1)] g P
    refine tz_eq qsy_7 (by decide) ⟨by omega, by omega⟩ (fun c2 => absurd c2 (by omega)) (fun c2 => ?_)
    show t_X d 243 10 lv [] g P
    refine t_0 qsy_10 rfl (ld_i l4) ?_
    refine t_0 qsy_12 rfl rfl ?_
    refine t_0 qsy_13 rfl rfl ?_
    refine t_3 qsy_14 rfl (ar := ([oI (w), oI (0), oI (3)], [])) (pcal_s ⟨Or.inl rfl, rfl, Nat.le_of_ble_eq_true rfl⟩) ⟨by omega, Nat.le_of_ble_eq_true rfl, Nat.le_of_ble_eq_true rfl, rfl⟩ ?_
    refine in_run ⟨by omega, by omega⟩ ⟨by omega, by omega⟩ ⟨by omega, by omega⟩ rfl rfl rfl (fun t3 => ?_) (fun t3 => ?_)
    · show t_X d 243 17 lv [oI (1)] g P
      refine tz_eq qsy_17 (by decide) ⟨by omega, by omega⟩ (fun c4 => absurd c4 (by omega)) (fun c4 => ?_)
      show t_X d 243 20 lv [] g P
      refine t_0 qsy_20 rfl (ld_i l1) ?_
      refine t_0 qsy_21 rfl (ld_a l0) ?_
      have r5 := gb_f hJ0.1 (y := 17) rfl rfl gf_17
      refine t_0 qsy_22 rfl (pq_gf (y := 17) rfl) ?_
      refine tb_le qsy_25 (by decide) ⟨by omega, by omega⟩ ⟨by omega, by omega⟩ (fun c6 => ?_) (fun c6 => ?_)
      · show t_X d 243 32 lv [] g P
        refine t_0 qsy_32 rfl (ld_a l0) ?_
        refine t_0 qsy_33 rfl rfl ?_
        refine tw_f qsy_34 rfl hJ0 w_17 gf_17 (by decide) ⟨by omega, by omega⟩ (fun g7 hJ7 v7 f7 a7 => ?_)
        have hP : ∀ (g1 : pH) (z : Int64), J_ Ws9 g7 g1 → P (some (.inr (.inl z)), g1) := fun g1 z h => hA (by omega) g1 z (J_up Ws9_2 hJ7 h) ((fF_M h.2 Ws9_1.1).trans v7)
        replace hJ7 : J_ Ws9 g7 g7 := J_rf hJ7.1
        replace a7 := fA_2 a7
        show t_X d 243 37 lv [] g7 P
        refine t_0 qsy_37 rfl (ld_a l0) ?_
        refine t_0 qsy_38 rfl (ld_i l1) ?_
        refine t_3 qsy_39 rfl (ar := ([pvR 196, oI (n)], [])) (pcal_v1 rfl rfl el_196) ⟨by omega, Nat.le_of_ble_eq_true rfl, Nat.le_of_ble_eq_true rfl, rfl⟩ ?_
        refine ts_run (by omega) hJ7.1 (by rw [oT (by omega) (by omega)]; omega) rfl rfl (fun g8 hA8 => ?_) (fun g8 hA8 e8 => ?_)
        · have hJ8 := J_up Ws9_1.2.2.1 hJ7 hA8
          show t_X d 243 42 lv [oI (0)] g8 P
          refine tz_ne qsy_42 (by decide) ⟨by omega, by omega⟩ (fun c9 => absurd c9 (by omega)) (fun c9 => ?_)
          show t_X d 243 45 lv [] g8 P
          refine t_0 qsy_45 rfl rfl ?_
          refine t_5 qsy_48 rfl rfl ?_
          exact hP _ _ hJ8
        · have hJ8 := J_up Ws9_1.2.2.1 hJ7 hA8
          have h71 : fF g8 71 = (n.toNat : Int) := by
            show (g8.1 196 71).toInt = _
            rw [e8, oT (by omega) (by omega)]
            omega
          show t_X d 243 42 lv [oI (1)] g8 P
          refine tz_ne qsy_42 (by decide) ⟨by omega, by omega⟩ (fun c10 => ?_) (fun c10 => absurd c10 (by omega))
          show t_X d 243 49 lv [] g8 P
          have hs2 : n.toNat ≤ 12 := by omega
          refine t_0 qsy_49 rfl (ld_i l4) ?_
          refine tz_ne qsy_51 (by decide) ⟨by omega, by omega⟩ (fun c11 => ?_) (fun c11 => ?_)
          · show t_X d 243 98 lv [] g8 P
            refine t_0 qsy_98 rfl (ld_a l0) ?_
            refine t_0 qsy_99 rfl rfl ?_
            refine t_0 qsy_100 rfl rfl ?_
            refine t_3 qsy_101 rfl (ar := ([pvR 196, oI ((-1)), oI ((-1))], [])) (pcal_v2 rfl rfl el_196) ⟨by omega, Nat.le_of_ble_eq_true rfl, Nat.le_of_ble_eq_true rfl, rfl⟩ ?_
            refine lo_run (by omega) hs2 h71 (Or.inl rfl) (fun g12 hA12 hZ12 => ?_) hJ8.1 rfl rfl rfl
            have hJ12 := J_up Ws9_1.2.2.2 hJ8 hA12
            show t_X d 243 104 lv [.inr (.inl (Lw g12 0))] g12 P
            refine t_2 qsy_104 rfl (w := (px_s2 lv 5 (.inr (.inl (Lw g12 0))), [])) rfl ?_
            replace l0 : px_lg (px_s2 lv 5 (.inr (.inl (Lw g12 0)))) 0 = some (pvR 196) := s2_ne (by decide) (fun _ => rfl) l0
            replace l1 : px_lg (px_s2 lv 5 (.inr (.inl (Lw g12 0)))) 1 = some (oI (n)) := s2_ne (by decide) (fun _ => rfl) l1
            replace l2 : px_lg (px_s2 lv 5 (.inr (.inl (Lw g12 0)))) 2 = some (oI (i)) := s2_ne (by decide) (fun _ => rfl) l2
            replace l3 : px_lg (px_s2 lv 5 (.inr (.inl (Lw g12 0)))) 3 = some (oI (j)) := s2_ne (by decide) (fun _ => rfl) l3
            replace l4 : px_lg (px_s2 lv 5 (.inr (.inl (Lw g12 0)))) 4 = some (oI (w)) := s2_ne (by decide) (fun _ => rfl) l4
            have l5 : px_lg (px_s2 lv 5 (.inr (.inl (Lw g12 0)))) 5 = some (.inr (.inl (Lw g12 0))) := s2_eq
            generalize px_s2 lv 5 (.inr (.inl (Lw g12 0))) = lv13 at l0 l1 l2 l3 l4 l5 ⊢
            show t_X d 243 106 lv13 [] g12 P
            refine t_0 qsy_106 rfl rfl ?_
            refine t_2 qsy_107 rfl (w := (px_s2 lv13 7 (.inr (.inl (Int64.ofNat 0))), [])) rfl ?_
            replace l0 : px_lg (px_s2 lv13 7 (.inr (.inl (Int64.ofNat 0)))) 0 = some (pvR 196) := s2_ne (by decide) (fun _ => rfl) l0
            replace l1 : px_lg (px_s2 lv13 7 (.inr (.inl (Int64.ofNat 0)))) 1 = some (oI (n)) := s2_ne (by decide) (fun _ => rfl) l1
            replace l2 : px_lg (px_s2 lv13 7 (.inr (.inl (Int64.ofNat 0)))) 2 = some (oI (i)) := s2_ne (by decide) (fun _ => rfl) l2
            replace l3 : px_lg (px_s2 lv13 7 (.inr (.inl (Int64.ofNat 0)))) 3 = some (oI (j)) := s2_ne (by decide) (fun _ => rfl) l3
            replace l4 : px_lg (px_s2 lv13 7 (.inr (.inl (Int64.ofNat 0)))) 4 = some (oI (w)) := s2_ne (by decide) (fun _ => rfl) l4
            replace l5 : px_lg (px_s2 lv13 7 (.inr (.inl (Int64.ofNat 0)))) 5 = some (.inr (.inl (Lw g12 0))) := s2_ne (by decide) (fun z => absurd z (by decide)) l5
            have l7 : px_lg (px_s2 lv13 7 (.inr (.inl (Int64.ofNat 0)))) 7 = some (.inr (.inl (Int64.ofNat 0))) := s2_eq
            generalize px_s2 lv13 7 (.inr (.inl (Int64.ofNat 0))) = lv14 at l0 l1 l2 l3 l4 l5 l7 ⊢
            show t_X d 243 109 lv14 [] g12 P
            refine t_0 qsy_109 rfl rfl ?_
            refine t_2 qsy_110 rfl (w := (px_s1 lv14 9 (oI ((-1))), [])) rfl ?_
            replace l0 : px_lg (px_s1 lv14 9 (oI ((-1)))) 0 = some (pvR 196) := s1_ne (by decide) (fun _ => rfl) l0
            replace l1 : px_lg (px_s1 lv14 9 (oI ((-1)))) 1 = some (oI (n)) := s1_ne (by decide) (fun _ => rfl) l1
            replace l2 : px_lg (px_s1 lv14 9 (oI ((-1)))) 2 = some (oI (i)) := s1_ne (by decide) (fun _ => rfl) l2
            replace l3 : px_lg (px_s1 lv14 9 (oI ((-1)))) 3 = some (oI (j)) := s1_ne (by decide) (fun _ => rfl) l3
            replace l4 : px_lg (px_s1 lv14 9 (oI ((-1)))) 4 = some (oI (w)) := s1_ne (by decide) (fun _ => rfl) l4
            replace l5 : px_lg (px_s1 lv14 9 (oI ((-1)))) 5 = some (.inr (.inl (Lw g12 0))) := s1_ne (by decide) (fun z => absurd z (by decide)) l5
            replace l7 : px_lg (px_s1 lv14 9 (oI ((-1)))) 7 = some (.inr (.inl (Int64.ofNat 0))) := s1_ne (by decide) (fun z => absurd z (by decide)) l7
            have l9 : px_lg (px_s1 lv14 9 (oI ((-1)))) 9 = some (oI ((-1))) := s1_eq
            generalize px_s1 lv14 9 (oI ((-1))) = lv15 at l0 l1 l2 l3 l4 l5 l7 l9 ⊢
            show t_X d 243 112 lv15 [] g12 P
            refine t_0 qsy_112 rfl rfl ?_
            refine t_2 qsy_113 rfl (w := (px_s1 lv15 10 (oI ((-1))), [])) rfl ?_
            replace l0 : px_lg (px_s1 lv15 10 (oI ((-1)))) 0 = some (pvR 196) := s1_ne (by decide) (fun _ => rfl) l0
            replace l1 : px_lg (px_s1 lv15 10 (oI ((-1)))) 1 = some (oI (n)) := s1_ne (by decide) (fun _ => rfl) l1
            replace l2 : px_lg (px_s1 lv15 10 (oI ((-1)))) 2 = some (oI (i)) := s1_ne (by decide) (fun _ => rfl) l2
            replace l3 : px_lg (px_s1 lv15 10 (oI ((-1)))) 3 = some (oI (j)) := s1_ne (by decide) (fun _ => rfl) l3
            replace l4 : px_lg (px_s1 lv15 10 (oI ((-1)))) 4 = some (oI (w)) := s1_ne (by decide) (fun _ => rfl) l4
            replace l5 : px_lg (px_s1 lv15 10 (oI ((-1)))) 5 = some (.inr (.inl (Lw g12 0))) := s1_ne (by decide) (fun z => absurd z (by decide)) l5
            replace l7 : px_lg (px_s1 lv15 10 (oI ((-1)))) 7 = some (.inr (.inl (Int64.ofNat 0))) := s1_ne (by decide) (fun z => absurd z (by decide)) l7
            replace l9 : px_lg (px_s1 lv15 10 (oI ((-1)))) 9 = some (oI ((-1))) := s1_ne (by decide) (fun _ => rfl) l9
            have l10 : px_lg (px_s1 lv15 10 (oI ((-1)))) 10 = some (oI ((-1))) := s1_eq
            generalize px_s1 lv15 10 (oI ((-1))) = lv16 at l0 l1 l2 l3 l4 l5 l7 l9 l10 ⊢
            show t_X d 243 115 lv16 [] g12 P
            refine t_0 qsy_115 rfl rfl ?_
            refine t_2 qsy_116 rfl (w := (px_s1 lv16 11 (oI (0)), [])) rfl ?_
            replace l0 : px_lg (px_s1 lv16 11 (oI (0))) 0 = some (pvR 196) := s1_ne (by decide) (fun _ => rfl) l0
            replace l1 : px_lg (px_s1 lv16 11 (oI (0))) 1 = some (oI (n)) := s1_ne (by decide) (fun _ => rfl) l1
            replace l2 : px_lg (px_s1 lv16 11 (oI (0))) 2 = some (oI (i)) := s1_ne (by decide) (fun _ => rfl) l2
            replace l3 : px_lg (px_s1 lv16 11 (oI (0))) 3 = some (oI (j)) := s1_ne (by decide) (fun _ => rfl) l3
            replace l4 : px_lg (px_s1 lv16 11 (oI (0))) 4 = some (oI (w)) := s1_ne (by decide) (fun _ => rfl) l4
            replace l5 : px_lg (px_s1 lv16 11 (oI (0))) 5 = some (.inr (.inl (Lw g12 0))) := s1_ne (by decide) (fun z => absurd z (by decide)) l5
            replace l7 : px_lg (px_s1 lv16 11 (oI (0))) 7 = some (.inr (.inl (Int64.ofNat 0))) := s1_ne (by decide) (fun z => absurd z (by decide)) l7
            replace l9 : px_lg (px_s1 lv16 11 (oI (0))) 9 = some (oI ((-1))) := s1_ne (by decide) (fun _ => rfl) l9
            replace l10 : px_lg (px_s1 lv16 11 (oI (0))) 10 = some (oI ((-1))) := s1_ne (by decide) (fun _ => rfl) l10
            have l11 : px_lg (px_s1 lv16 11 (oI (0))) 11 = some (oI (0)) := s1_eq
            generalize px_s1 lv16 11 (oI (0)) = lv17 at l0 l1 l2 l3 l4 l5 l7 l9 l10 l11 ⊢
            show t_X d 243 118 lv17 [] g12 P
            exact sy9_a (by omega) hw (by omega) hP 12 0 _ _ (-1) (-1) _ (by omega) (by omega) (Or.inl ⟨rfl, rfl⟩) hJ12 (by rw [fF_M hA12.2 Wo_1.2.2.2.1, h71]) l0 l1 l4 l5 l7 l9 l10 l11
          · show t_X d 243 54 lv [] g8 P
            refine t_0 qsy_54 rfl (ld_a l0) ?_
            refine t_0 qsy_55 rfl (ld_i l2) ?_
            refine t_3 qsy_56 rfl (ar := ([pvR 196, oI (i)], [])) (pcal_v1 rfl rfl el_196) ⟨by omega, Nat.le_of_ble_eq_true rfl, Nat.le_of_ble_eq_true rfl, rfl⟩ ?_
            refine sa_run hJ8.1 ⟨by omega, by omega⟩ (fun z18 hz18 => ?_) rfl rfl
            have hy18 : -1 ≤ z18 ∧ z18 < 12 := by
              rcases hz18 with h | h
              · omega
              · have := gb_f hJ8.1 (y := 71) rfl rfl gf_71
                omega
            show t_X d 243 59 lv [oI (z18)] g8 P
            refine t_0 qsy_59 rfl rfl ?_
            refine tb_eq qsy_60 (by decide) ⟨by omega, by omega⟩ ⟨by omega, by omega⟩ (fun c19 => ?_) (fun c19 => ?_)
            · show t_X d 243 77 lv [] g8 P
              refine t_0 qsy_77 rfl rfl ?_
              refine t_1 qsy_80 rfl (pb_goto (pc := 80) (by decide)) ?_
              show t_X d 243 97 lv [.inr (.inl (xe_k 9223372036854775805))] g8 P
              refine t_5 qsy_97 rfl rfl ?_
              exact hP _ _ hJ8
            · show t_X d 243 63 lv [] g8 P
              refine t_0 qsy_63 rfl (ld_a l0) ?_
              refine t_0 qsy_64 rfl (ld_i l3) ?_
              refine t_3 qsy_65 rfl (ar := ([pvR 196, oI (j)], [])) (pcal_v1 rfl rfl el_196) ⟨by omega, Nat.le_of_ble_eq_true rfl, Nat.le_of_ble_eq_true rfl, rfl⟩ ?_
              refine sa_run hJ8.1 ⟨by omega, by omega⟩ (fun z20 hz20 => ?_) rfl rfl
              have hy20 : -1 ≤ z20 ∧ z20 < 12 := by
                rcases hz20 with h | h
                · omega
                · have := gb_f hJ8.1 (y := 71) rfl rfl gf_71
                  omega
              show t_X d 243 68 lv [oI (z20)] g8 P
              refine t_0 qsy_68 rfl rfl ?_
              refine tb_eq qsy_69 (by decide) ⟨by omega, by omega⟩ ⟨by omega, by omega⟩ (fun c21 => ?_) (fun c21 => ?_)
              · show t_X d 243 77 lv [] g8 P
                refine t_0 qsy_77 rfl rfl ?_
                refine t_1 qsy_80 rfl (pb_goto (pc := 80) (by decide)) ?_
                show t_X d 243 97 lv [.inr (.inl (xe_k 9223372036854775805))] g8 P
                refine t_5 qsy_97 rfl rfl ?_
                exact hP _ _ hJ8
              · show t_X d 243 72 lv [] g8 P
                refine t_0 qsy_72 rfl (ld_i l2) ?_
                refine t_0 qsy_73 rfl (ld_i l3) ?_
                refine tb_ne qsy_74 (by decide) ⟨by omega, by omega⟩ ⟨by omega, by omega⟩ (fun c22 => ?_) (fun c22 => ?_)
                · show t_X d 243 83 lv [] g8 P
                  refine t_0 qsy_83 rfl (ld_a l0) ?_
                  refine t_0 qsy_84 rfl (ld_a l0) ?_
                  refine t_0 qsy_85 rfl (ld_i l2) ?_
                  refine t_3 qsy_86 rfl (ar := ([pvR 196, oI (i)], [pvR 196])) (pcal_v1 rfl rfl el_196) ⟨by omega, Nat.le_of_ble_eq_true rfl, Nat.le_of_ble_eq_true rfl, rfl⟩ ?_
                  refine sa_run hJ8.1 ⟨by omega, by omega⟩ (fun z23 hz23 => ?_) rfl rfl
                  have hy23 : -1 ≤ z23 ∧ z23 < 12 := by
                    rcases hz23 with h | h
                    · omega
                    · have := gb_f hJ8.1 (y := 71) rfl rfl gf_71
                      omega
                  have hn23 : 0 ≤ z23 := by
                    rcases hz23 with h | h
                    · rcases hz18 with u | u
                      · omega
                      · exact absurd u.2.2 (h.2 z18.toNat (by omega))
                    · exact h.1
                  show t_X d 243 89 lv [oI (z23), pvR 196] g8 P
                  refine t_0 qsy_89 rfl (ld_a l0) ?_
                  refine t_0 qsy_90 rfl (ld_i l3) ?_
                  refine t_3 qsy_91 rfl (ar := ([pvR 196, oI (j)], [oI (z23), pvR 196])) (pcal_v1 rfl rfl el_196) ⟨by omega, Nat.le_of_ble_eq_true rfl, Nat.le_of_ble_eq_true rfl, rfl⟩ ?_
                  refine sa_run hJ8.1 ⟨by omega, by omega⟩ (fun z24 hz24 => ?_) rfl rfl
                  have hy24 : -1 ≤ z24 ∧ z24 < 12 := by
                    rcases hz24 with h | h
                    · omega
                    · have := gb_f hJ8.1 (y := 71) rfl rfl gf_71
                      omega
                  have hn24 : 0 ≤ z24 := by
                    rcases hz24 with h | h
                    · rcases hz20 with u | u
                      · omega
                      · exact absurd u.2.2 (h.2 z20.toNat (by omega))
                    · exact h.1
                  show t_X d 243 94 lv [oI (z24), oI (z23), pvR 196] g8 P
                  refine t_3 qsy_94 rfl (ar := ([pvR 196, oI (z23), oI (z24)], [])) (pcal_v2 rfl rfl el_196) ⟨by omega, Nat.le_of_ble_eq_true rfl, Nat.le_of_ble_eq_true rfl, rfl⟩ ?_
                  refine lo_run (by omega) hs2 h71 (Or.inr ⟨by omega, by omega, by omega, by omega⟩) (fun g25 hA25 hZ25 => ?_) hJ8.1 rfl rfl rfl
                  have hJ25 := J_up Ws9_1.2.2.2 hJ8 hA25
                  show t_X d 243 97 lv [.inr (.inl (Lw g25 0))] g25 P
                  refine t_5 qsy_97 rfl rfl ?_
                  exact hP _ _ hJ25
                · show t_X d 243 77 lv [] g8 P
                  refine t_0 qsy_77 rfl rfl ?_
                  refine t_1 qsy_80 rfl (pb_goto (pc := 80) (by decide)) ?_
                  show t_X d 243 97 lv [.inr (.inl (xe_k 9223372036854775805))] g8 P
                  refine t_5 qsy_97 rfl rfl ?_
                  exact hP _ _ hJ8
      · show t_X d 243 28 lv [] g P
        refine t_0 qsy_28 rfl rfl ?_
        refine t_5 qsy_31 rfl rfl ?_
        exact hR _ (by omega)
    · show t_X d 243 17 lv [oI (0)] g P
      refine tz_eq qsy_17 (by decide) ⟨by omega, by omega⟩ (fun c26 => ?_) (fun c26 => absurd c26 (by omega))
      show t_X d 243 28 lv [] g P
      refine t_0 qsy_28 rfl rfl ?_
      refine t_5 qsy_31 rfl rfl ?_
      exact hR _ (by omega)
  · show t_X d 243 7 lv [oI (0)] g P
    refine tz_eq qsy_7 (by decide) ⟨by omega, by omega⟩ (fun c27 => ?_) (fun c27 => absurd c27 (by omega))
    show t_X d 243 28 lv [] g P
    refine t_0 qsy_28 rfl rfl ?_
    refine t_5 qsy_31 rfl rfl ?_
    exact hR _ (by omega)
end
section
/-! the tie: what both sides know (printed by wip/e2/t8.py) -/
/-- the cells of what both sides know: but the tape's length; that too -/
def mR1 : Nat := 638668899497215412273374187011238579394419694248117842725240360554729793444563951746104633902628206937774452610411498994165086862036232831093729296607144456694473928395572762211296068914518162914208861475894826807539884870770676694928667492289607287684889769474796380263368945644944346434248720
def mR0 : Nat := 638668899497215412273374191138539603891804431375772412385526348983224528101763343370797673173518070662187417254296310616486867289179943715915047100375484765309204688165408531453011513511289131656436081544109808654621455597522496290328576899696078324806465854149772151880841418219464509697826834
theorem mx_f {V M i : Nat} (h : V &&& M = 0) (hi : M.testBit i = true) : V.testBit i = false := by
  have : (V &&& M).testBit i = false := by rw [h, Nat.zero_testBit]
  rw [Nat.testBit_and, hi, Bool.and_true] at this
  exact this
theorem mR1_b : mR1.testBit (cn 1) = true ∧ mR1.testBit (cn 211) = true ∧ mR1.testBit (cn 3) = true ∧ mR1.testBit (cn 77) = true ∧ mR1.testBit (cn 196 + 0) = true ∧ mR1.testBit (cn 196 + 73) = true ∧ mR1.testBit (cn 0 + 4) = true ∧ mR1.testBit (cn 196 + 72) = true ∧ (∀ j, j < 32 → mR1.testBit (cn (4 + 2 * j) + 2) = true) ∧ (∀ j, j < 32 → mR1.testBit (cn (78 + 2 * j) + 2) = true) := by decide +kernel
theorem mR0_b : mR1 &&& mR0 = mR1 ∧ mR0.testBit (cn 0 + 1) = true ∧ mR0.testBit (cn 196 + 17) = true := by decide +kernel
theorem mR01 {W : Nat} (h : W &&& mR0 = 0) : W &&& mR1 = 0 := by
  rw [← mR0_b.1, Nat.and_comm mR1 mR0, ← Nat.and_assoc, h, Nat.zero_and]
def rN (g : pH) : Prop := ∀ j, j < 32 → (cF g (4 + 2 * j) 2 = 1 ↔ bM g j)
def rK (g : pH) : Prop := (∀ j, j < 32 → (cF g (78 + 2 * j) 2 = 1 ↔ (g.1 196 73).toBitVec.getLsbD j = true)) ∧ cF g 0 4 = cF g 196 72
def R1 (g : pH) : Prop := rS g ∧ tpR (fA g 1) (fA g 211) ∧ rN g ∧ rK g
def R0 (g : pH) : Prop := R1 g ∧ cF g 0 1 = cF g 196 17
theorem rS_f {W : Nat} {g g1 : pH} (hM : f_M W g g1) (hW : W &&& mR1 = 0) (h : rS g) : rS g1 := rS_M hM ⟨mx_f hW mR1_b.2.2.1, mx_f hW mR1_b.2.2.2.1⟩ h
theorem R1_f {W : Nat} {g g1 : pH} (hM : f_M W g g1) (hW : W &&& mR1 = 0) (h : R1 g) : R1 g1 := by
  obtain ⟨h1, h2, h3, h4, h5⟩ := h
  obtain ⟨b1, b2, b3, b4, b5, b6, b7, b8, b9, b10⟩ := mR1_b
  refine ⟨rS_f hM hW h1, ?_, fun j hj => ?_, fun j hj => ?_, ?_⟩
  · rw [fA_M hM (mx_f hW b1), fA_M hM (mx_f hW b2)]
    exact h2
  · rw [cF_M hM (mx_f hW (b9 j hj))]
    unfold bM
    rw [(hM.1 196 0 (mx_f hW b5)).1]
    exact h3 j hj
  · rw [cF_M hM (mx_f hW (b10 j hj)), (hM.1 196 73 (mx_f hW b6)).1]
    exact h4 j hj
  · rw [cF_M hM (mx_f hW b7), cF_M hM (mx_f hW b8)]
    exact h5
theorem R0_f {W : Nat} {g g1 : pH} (hM : f_M W g g1) (hW : W &&& mR0 = 0) (h : R0 g) : R0 g1 := by
  refine ⟨R1_f hM (mR01 hW) h.1, ?_⟩
  rw [cF_M hM (mx_f hW mR0_b.2.1), cF_M hM (mx_f hW mR0_b.2.2)]
  exact h.2
theorem to_iff {g : pH} (h : R1 g) {i : Int} : toC g i ↔ toM g i := by
  constructor
  · rintro ⟨m, h1, h2, h3⟩
    exact ⟨m, h1, h2, (h.2.2.1 m h1).mp h3⟩
  · rintro ⟨m, h1, h2, h3⟩
    exact ⟨m, h1, h2, (h.2.2.1 m h1).mpr h3⟩
/-- an op of both sides: the class', then the reference's -/
def pr_ (R : pH → Prop) (μ ν : Nat) (as : List pv) (τ : Nat) (q : Bool) (g : pH) : Prop := t_X 99 μ 0 (px_ar 0 (pvR 0 :: as)) [] g (fun o => ∃ v, o.1 = some v ∧ ct v = τ ∧ t_X 99 ν 0 (px_ar 0 (pvR 196 :: as)) [] o.2 (fun o2 => ∃ v2, o2.1 = some v2 ∧ ct v2 = τ ∧ g_I eG o2.2 ∧ xL o2.2 ∧ R o2.2 ∧ (q = true → v = v2)))
theorem pr_no {R : pH → Prop} {μ ν : Nat} {as : List pv} {τ : Nat} {q : Bool} {g : pH} (h : pr_ R μ ν as τ q g) : pr_ R μ ν as τ false g := t_mono h (fun o ho => by
  obtain ⟨v, h1, h2, h3⟩ := ho
  refine ⟨v, h1, h2, t_mono h3 (fun o2 h4 => ?_)⟩
  obtain ⟨v2, g1, g2, g3, g4, g5, -⟩ := h4
  exact ⟨v2, g1, g2, g3, g4, g5, fun z => by cases z⟩)
end
section
/-! the tie: ops that leave it, as pairs (printed by wip/e2/t8.py) -/
theorem in_k10 : kk_10 ∈ eKT 134 := List.mem_singleton.mpr rfl
theorem in_k11 : kk_11 ∈ eKT 221 := List.mem_singleton.mpr rfl
theorem toC_f {W : Nat} {g g1 : pH} (hM : f_M W g g1) (hW : W &&& mR0 = 0) {i : Int} (h : toC g i) : toC g1 i := by
  obtain ⟨m, h1, h2, h3⟩ := h
  exact ⟨m, h1, h2, by rw [cF_M hM (mx_f (mR01 hW) (mR1_b.2.2.2.2.2.2.2.2.1 m h1))]; exact h3⟩
theorem toC_b {W : Nat} {g g1 : pH} (hM : f_M W g g1) (hW : W &&& mR0 = 0) {i : Int} (h : toC g1 i) : toC g i := by
  obtain ⟨m, h1, h2, h3⟩ := h
  exact ⟨m, h1, h2, by rw [← cF_M hM (mx_f (mR01 hW) (mR1_b.2.2.2.2.2.2.2.2.1 m h1))]; exact h3⟩
theorem mk_0 : kk_10.2.2.2.1 &&& mR0 = 0 := by decide +kernel
theorem mk_1 : kk_11.2.2.2.1 &&& mR0 = 0 := by decide +kernel
theorem pr_looker {g : pH} (hG : g_I eG g) (hx : xL g) (hR : R0 g) (x1 x2 x3 : Int32) : pr_ R0 134 221 [.inl x1, .inl x2, .inl x3] 0 false g := by
  unfold pr_
  refine kc_go (k := kk_10) in_k10 rfl (by decide) hG hx (vs := [pvR 0, .inl x1, .inl x2, .inl x3]) (xs := [cv (pvR 0), x1.toInt, x2.toInt, x3.toInt]) ⟨by decide, ⟨⟨pvR 0, rfl, rfl, rfl, ok_0⟩, ⟨.inl x1, rfl, rfl, rfl, ok_full32 _⟩, ⟨.inl x2, rfl, rfl, rfl, ok_full32 _⟩, ⟨.inl x3, rfl, rfl, rfl, ok_full32 _⟩, trivial⟩, trivial, fun c hc => by cases hc⟩ rfl (n := 0) (by decide +kernel) (fun v1 g1 c1 G1 X1 M1 => ⟨v1, rfl, c1, ?_⟩)
  refine kc_go (k := kk_11) in_k11 rfl (by decide) G1 X1 (vs := [pvR 196, .inl x1, .inl x2, .inl x3]) (xs := [cv (pvR 196), x1.toInt, x2.toInt, x3.toInt]) ⟨by decide, ⟨⟨pvR 196, rfl, rfl, rfl, ok_this⟩, ⟨.inl x1, rfl, rfl, rfl, ok_full32 _⟩, ⟨.inl x2, rfl, rfl, rfl, ok_full32 _⟩, ⟨.inl x3, rfl, rfl, rfl, ok_full32 _⟩, trivial⟩, trivial, fun c hc => by cases hc⟩ rfl (n := 0) (by decide +kernel) (fun v2 g2 c2 G2 X2 M2 => ⟨v2, rfl, c2, G2, X2, R0_f M2 mk_1 (R0_f M1 mk_0 hR), fun z => by cases z⟩)
theorem mk_2 : kk_12.2.2.2.1 &&& mR0 = 0 := by decide +kernel
theorem mk_3 : kk_13.2.2.2.1 &&& mR0 = 0 := by decide +kernel
theorem pr_lamps {g : pH} (hG : g_I eG g) (hx : xL g) (hR : R0 g) (x1 : Int32) : pr_ R0 128 211 [.inl x1] 0 false g := by
  unfold pr_
  refine kc_go (k := kk_12) in_k12 rfl (by decide) hG hx (vs := [pvR 0, .inl x1]) (xs := [cv (pvR 0), x1.toInt]) ⟨by decide, ⟨⟨pvR 0, rfl, rfl, rfl, ok_0⟩, ⟨.inl x1, rfl, rfl, rfl, ok_full32 _⟩, trivial⟩, trivial, fun c hc => by cases hc⟩ rfl (n := 0) (by decide +kernel) (fun v1 g1 c1 G1 X1 M1 => ⟨v1, rfl, c1, ?_⟩)
  refine kc_go (k := kk_13) in_k13 rfl (by decide) G1 X1 (vs := [pvR 196, .inl x1]) (xs := [cv (pvR 196), x1.toInt]) ⟨by decide, ⟨⟨pvR 196, rfl, rfl, rfl, ok_this⟩, ⟨.inl x1, rfl, rfl, rfl, ok_full32 _⟩, trivial⟩, trivial, fun c hc => by cases hc⟩ rfl (n := 0) (by decide +kernel) (fun v2 g2 c2 G2 X2 M2 => ⟨v2, rfl, c2, G2, X2, R0_f M2 mk_3 (R0_f M1 mk_2 hR), fun z => by cases z⟩)
theorem mk_4 : kk_14.2.2.2.1 &&& mR0 = 0 := by decide +kernel
theorem mk_5 : kk_15.2.2.2.1 &&& mR0 = 0 := by decide +kernel
theorem pr_ways {g : pH} (hG : g_I eG g) (hx : xL g) (hR : R0 g) (x1 x2 x3 : Int32) : pr_ R0 164 273 [.inl x1, .inl x2, .inl x3] 0 false g := by
  unfold pr_
  refine kc_go (k := kk_14) in_k14 rfl (by decide) hG hx (vs := [pvR 0, .inl x1, .inl x2, .inl x3]) (xs := [cv (pvR 0), x1.toInt, x2.toInt, x3.toInt]) ⟨by decide, ⟨⟨pvR 0, rfl, rfl, rfl, ok_0⟩, ⟨.inl x1, rfl, rfl, rfl, ok_full32 _⟩, ⟨.inl x2, rfl, rfl, rfl, ok_full32 _⟩, ⟨.inl x3, rfl, rfl, rfl, ok_full32 _⟩, trivial⟩, trivial, fun c hc => by cases hc⟩ rfl (n := 0) (by decide +kernel) (fun v1 g1 c1 G1 X1 M1 => ⟨v1, rfl, c1, ?_⟩)
  refine kc_go (k := kk_15) in_k15 rfl (by decide) G1 X1 (vs := [pvR 196, .inl x1, .inl x2, .inl x3]) (xs := [cv (pvR 196), x1.toInt, x2.toInt, x3.toInt]) ⟨by decide, ⟨⟨pvR 196, rfl, rfl, rfl, ok_this⟩, ⟨.inl x1, rfl, rfl, rfl, ok_full32 _⟩, ⟨.inl x2, rfl, rfl, rfl, ok_full32 _⟩, ⟨.inl x3, rfl, rfl, rfl, ok_full32 _⟩, trivial⟩, trivial, fun c hc => by cases hc⟩ rfl (n := 0) (by decide +kernel) (fun v2 g2 c2 G2 X2 M2 => ⟨v2, rfl, c2, G2, X2, R0_f M2 mk_5 (R0_f M1 mk_4 hR), fun z => by cases z⟩)
theorem mk_6 : kk_16.2.2.2.1 &&& mR0 = 0 := by decide +kernel
theorem mk_7 : kk_17.2.2.2.1 &&& mR0 = 0 := by decide +kernel
theorem pr_shown {g : pH} (hG : g_I eG g) (hx : xL g) (hR : R0 g) (x1 x2 x3 : Int32) : pr_ R0 146 247 [.inl x1, .inl x2, .inl x3] 0 false g := by
  unfold pr_
  refine kc_go (k := kk_16) in_k16 rfl (by decide) hG hx (vs := [pvR 0, .inl x1, .inl x2, .inl x3]) (xs := [cv (pvR 0), x1.toInt, x2.toInt, x3.toInt]) ⟨by decide, ⟨⟨pvR 0, rfl, rfl, rfl, ok_0⟩, ⟨.inl x1, rfl, rfl, rfl, ok_full32 _⟩, ⟨.inl x2, rfl, rfl, rfl, ok_full32 _⟩, ⟨.inl x3, rfl, rfl, rfl, ok_full32 _⟩, trivial⟩, trivial, fun c hc => by cases hc⟩ rfl (n := 0) (by decide +kernel) (fun v1 g1 c1 G1 X1 M1 => ⟨v1, rfl, c1, ?_⟩)
  refine kc_go (k := kk_17) in_k17 rfl (by decide) G1 X1 (vs := [pvR 196, .inl x1, .inl x2, .inl x3]) (xs := [cv (pvR 196), x1.toInt, x2.toInt, x3.toInt]) ⟨by decide, ⟨⟨pvR 196, rfl, rfl, rfl, ok_this⟩, ⟨.inl x1, rfl, rfl, rfl, ok_full32 _⟩, ⟨.inl x2, rfl, rfl, rfl, ok_full32 _⟩, ⟨.inl x3, rfl, rfl, rfl, ok_full32 _⟩, trivial⟩, trivial, fun c hc => by cases hc⟩ rfl (n := 0) (by decide +kernel) (fun v2 g2 c2 G2 X2 M2 => ⟨v2, rfl, c2, G2, X2, R0_f M2 mk_7 (R0_f M1 mk_6 hR), fun z => by cases z⟩)
theorem mk_8 : kk_18.2.2.2.1 &&& mR0 = 0 := by decide +kernel
theorem mk_9 : kk_19.2.2.2.1 &&& mR0 = 0 := by decide +kernel
theorem pr_slideIs {g : pH} (hG : g_I eG g) (hx : xL g) (hR : R0 g) (x1 x2 : Int32) : pr_ R0 148 252 [.inl x1, .inl x2] 0 false g := by
  unfold pr_
  refine kc_go (k := kk_18) in_k18 rfl (by decide) hG hx (vs := [pvR 0, .inl x1, .inl x2]) (xs := [cv (pvR 0), x1.toInt, x2.toInt]) ⟨by decide, ⟨⟨pvR 0, rfl, rfl, rfl, ok_0⟩, ⟨.inl x1, rfl, rfl, rfl, ok_full32 _⟩, ⟨.inl x2, rfl, rfl, rfl, ok_full32 _⟩, trivial⟩, trivial, fun c hc => by cases hc⟩ rfl (n := 0) (by decide +kernel) (fun v1 g1 c1 G1 X1 M1 => ⟨v1, rfl, c1, ?_⟩)
  refine kc_go (k := kk_19) in_k19 rfl (by decide) G1 X1 (vs := [pvR 196, .inl x1, .inl x2]) (xs := [cv (pvR 196), x1.toInt, x2.toInt]) ⟨by decide, ⟨⟨pvR 196, rfl, rfl, rfl, ok_this⟩, ⟨.inl x1, rfl, rfl, rfl, ok_full32 _⟩, ⟨.inl x2, rfl, rfl, rfl, ok_full32 _⟩, trivial⟩, trivial, fun c hc => by cases hc⟩ rfl (n := 0) (by decide +kernel) (fun v2 g2 c2 G2 X2 M2 => ⟨v2, rfl, c2, G2, X2, R0_f M2 mk_9 (R0_f M1 mk_8 hR), fun z => by cases z⟩)
theorem mk_10 : kk_21.2.2.2.1 &&& mR0 = 0 := by decide +kernel
theorem mk_11 : kk_22.2.2.2.1 &&& mR0 = 0 := by decide +kernel
theorem pr_inTray {g : pH} (hG : g_I eG g) (hx : xL g) (hR : R0 g) (x1 : Int32) : pr_ R0 122 200 [.inl x1] 0 false g := by
  unfold pr_
  refine kc_go (k := kk_21) in_k21 rfl (by decide) hG hx (vs := [pvR 0, .inl x1]) (xs := [cv (pvR 0), x1.toInt]) ⟨by decide, ⟨⟨pvR 0, rfl, rfl, rfl, ok_0⟩, ⟨.inl x1, rfl, rfl, rfl, ok_full32 _⟩, trivial⟩, trivial, fun c hc => by cases hc⟩ rfl (n := 0) (by decide +kernel) (fun v1 g1 c1 G1 X1 M1 => ⟨v1, rfl, c1, ?_⟩)
  refine kc_go (k := kk_22) in_k22 rfl (by decide) G1 X1 (vs := [pvR 196, .inl x1]) (xs := [cv (pvR 196), x1.toInt]) ⟨by decide, ⟨⟨pvR 196, rfl, rfl, rfl, ok_this⟩, ⟨.inl x1, rfl, rfl, rfl, ok_full32 _⟩, trivial⟩, trivial, fun c hc => by cases hc⟩ rfl (n := 0) (by decide +kernel) (fun v2 g2 c2 G2 X2 M2 => ⟨v2, rfl, c2, G2, X2, R0_f M2 mk_11 (R0_f M1 mk_10 hR), fun z => by cases z⟩)
theorem mk_12 : kk_24.2.2.2.1 &&& mR0 = 0 := by decide +kernel
theorem mk_13 : kk_25.2.2.2.1 &&& mR0 = 0 := by decide +kernel
theorem pr_evening {g : pH} (hG : g_I eG g) (hx : xL g) (hR : R0 g) : pr_ R0 118 187 [] 0 false g := by
  unfold pr_
  refine kc_go (k := kk_24) in_k24 rfl (by decide) hG hx (vs := [pvR 0]) (xs := [cv (pvR 0)]) ⟨by decide, ⟨⟨pvR 0, rfl, rfl, rfl, ok_0⟩, trivial⟩, trivial, fun c hc => by cases hc⟩ rfl (n := 0) (by decide +kernel) (fun v1 g1 c1 G1 X1 M1 => ⟨v1, rfl, c1, ?_⟩)
  refine kc_go (k := kk_25) in_k25 rfl (by decide) G1 X1 (vs := [pvR 196]) (xs := [cv (pvR 196)]) ⟨by decide, ⟨⟨pvR 196, rfl, rfl, rfl, ok_this⟩, trivial⟩, trivial, fun c hc => by cases hc⟩ rfl (n := 0) (by decide +kernel) (fun v2 g2 c2 G2 X2 M2 => ⟨v2, rfl, c2, G2, X2, R0_f M2 mk_13 (R0_f M1 mk_12 hR), fun z => by cases z⟩)
theorem mk_14 : kk_26.2.2.2.1 &&& mR0 = 0 := by decide +kernel
theorem mk_15 : kk_27.2.2.2.1 &&& mR0 = 0 := by decide +kernel
theorem pr_tried {g : pH} (hG : g_I eG g) (hx : xL g) (hR : R0 g) (x1 : Int32) : pr_ R0 158 265 [.inl x1] 0 false g := by
  unfold pr_
  refine kc_go (k := kk_26) in_k26 rfl (by decide) hG hx (vs := [pvR 0, .inl x1]) (xs := [cv (pvR 0), x1.toInt]) ⟨by decide, ⟨⟨pvR 0, rfl, rfl, rfl, ok_0⟩, ⟨.inl x1, rfl, rfl, rfl, ok_full32 _⟩, trivial⟩, trivial, fun c hc => by cases hc⟩ rfl (n := 0) (by decide +kernel) (fun v1 g1 c1 G1 X1 M1 => ⟨v1, rfl, c1, ?_⟩)
  refine kc_go (k := kk_27) in_k27 rfl (by decide) G1 X1 (vs := [pvR 196, .inl x1]) (xs := [cv (pvR 196), x1.toInt]) ⟨by decide, ⟨⟨pvR 196, rfl, rfl, rfl, ok_this⟩, ⟨.inl x1, rfl, rfl, rfl, ok_full32 _⟩, trivial⟩, trivial, fun c hc => by cases hc⟩ rfl (n := 0) (by decide +kernel) (fun v2 g2 c2 G2 X2 M2 => ⟨v2, rfl, c2, G2, X2, R0_f M2 mk_15 (R0_f M1 mk_14 hR), fun z => by cases z⟩)
theorem mk_16 : kk_30.2.2.2.1 &&& mR0 = 0 := by decide +kernel
theorem mk_17 : kk_31.2.2.2.1 &&& mR0 = 0 := by decide +kernel
theorem pr_toTurn {g : pH} (hG : g_I eG g) (hx : xL g) (hR : R0 g) (x1 x2 : Int32) : pr_ R0 156 263 [.inl x1, .inl x2] 1 false g := by
  unfold pr_
  refine kc_go (k := kk_30) in_k30 rfl (by decide) hG hx (vs := [pvR 0, .inl x1, .inl x2]) (xs := [cv (pvR 0), x1.toInt, x2.toInt]) ⟨by decide, ⟨⟨pvR 0, rfl, rfl, rfl, ok_0⟩, ⟨.inl x1, rfl, rfl, rfl, ok_full32 _⟩, ⟨.inl x2, rfl, rfl, rfl, ok_full32 _⟩, trivial⟩, trivial, fun c hc => by cases hc⟩ rfl (n := 1) (by decide +kernel) (fun v1 g1 c1 G1 X1 M1 => ⟨v1, rfl, c1, ?_⟩)
  refine kc_go (k := kk_31) in_k31 rfl (by decide) G1 X1 (vs := [pvR 196, .inl x1, .inl x2]) (xs := [cv (pvR 196), x1.toInt, x2.toInt]) ⟨by decide, ⟨⟨pvR 196, rfl, rfl, rfl, ok_this⟩, ⟨.inl x1, rfl, rfl, rfl, ok_full32 _⟩, ⟨.inl x2, rfl, rfl, rfl, ok_full32 _⟩, trivial⟩, trivial, fun c hc => by cases hc⟩ rfl (n := 1) (by decide +kernel) (fun v2 g2 c2 G2 X2 M2 => ⟨v2, rfl, c2, G2, X2, R0_f M2 mk_17 (R0_f M1 mk_16 hR), fun z => by cases z⟩)
theorem mk_18 : kk_32.2.2.2.1 &&& mR0 = 0 := by decide +kernel
theorem mk_19 : kk_33.2.2.2.1 &&& mR0 = 0 := by decide +kernel
theorem pr_leave {g : pH} (hG : g_I eG g) (hx : xL g) (hR : R0 g) (x1 x2 : Int32) : pr_ R0 130 217 [.inl x1, .inl x2] 1 false g := by
  unfold pr_
  refine kc_go (k := kk_32) in_k32 rfl (by decide) hG hx (vs := [pvR 0, .inl x1, .inl x2]) (xs := [cv (pvR 0), x1.toInt, x2.toInt]) ⟨by decide, ⟨⟨pvR 0, rfl, rfl, rfl, ok_0⟩, ⟨.inl x1, rfl, rfl, rfl, ok_full32 _⟩, ⟨.inl x2, rfl, rfl, rfl, ok_full32 _⟩, trivial⟩, trivial, fun c hc => by cases hc⟩ rfl (n := 1) (by decide +kernel) (fun v1 g1 c1 G1 X1 M1 => ⟨v1, rfl, c1, ?_⟩)
  refine kc_go (k := kk_33) in_k33 rfl (by decide) G1 X1 (vs := [pvR 196, .inl x1, .inl x2]) (xs := [cv (pvR 196), x1.toInt, x2.toInt]) ⟨by decide, ⟨⟨pvR 196, rfl, rfl, rfl, ok_this⟩, ⟨.inl x1, rfl, rfl, rfl, ok_full32 _⟩, ⟨.inl x2, rfl, rfl, rfl, ok_full32 _⟩, trivial⟩, trivial, fun c hc => by cases hc⟩ rfl (n := 1) (by decide +kernel) (fun v2 g2 c2 G2 X2 M2 => ⟨v2, rfl, c2, G2, X2, R0_f M2 mk_19 (R0_f M1 mk_18 hR), fun z => by cases z⟩)
theorem mk_20 : kk_38.2.2.2.1 &&& mR0 = 0 := by decide +kernel
theorem mk_21 : kk_39.2.2.2.1 &&& mR0 = 0 := by decide +kernel
theorem pr_dots {g : pH} (hG : g_I eG g) (hx : xL g) (hR : R0 g) (x1 x2 : Int32) : pr_ R0 117 184 [.inl x1, .inl x2] 0 false g := by
  unfold pr_
  refine kc_go (k := kk_38) in_k38 rfl (by decide) hG hx (vs := [pvR 0, .inl x1, .inl x2]) (xs := [cv (pvR 0), x1.toInt, x2.toInt]) ⟨by decide, ⟨⟨pvR 0, rfl, rfl, rfl, ok_0⟩, ⟨.inl x1, rfl, rfl, rfl, ok_full32 _⟩, ⟨.inl x2, rfl, rfl, rfl, ok_full32 _⟩, trivial⟩, trivial, fun c hc => by cases hc⟩ rfl (n := 0) (by decide +kernel) (fun v1 g1 c1 G1 X1 M1 => ⟨v1, rfl, c1, ?_⟩)
  refine kc_go (k := kk_39) in_k39 rfl (by decide) G1 X1 (vs := [pvR 196, .inl x1, .inl x2]) (xs := [cv (pvR 196), x1.toInt, x2.toInt]) ⟨by decide, ⟨⟨pvR 196, rfl, rfl, rfl, ok_this⟩, ⟨.inl x1, rfl, rfl, rfl, ok_full32 _⟩, ⟨.inl x2, rfl, rfl, rfl, ok_full32 _⟩, trivial⟩, trivial, fun c hc => by cases hc⟩ rfl (n := 0) (by decide +kernel) (fun v2 g2 c2 G2 X2 M2 => ⟨v2, rfl, c2, G2, X2, R0_f M2 mk_21 (R0_f M1 mk_20 hR), fun z => by cases z⟩)
theorem mk_22 : kk_34.2.2.2.1 &&& mR0 = 0 := by decide +kernel
theorem mk_23 : kk_35.2.2.2.1 &&& mR0 = 0 := by decide +kernel
theorem pr_lightBox {g : pH} (hG : g_I eG g) (hx : xL g) (hR : R0 g) (x1 x2 : Int32) : pr_ R0 132 219 [.inl x1, .inl x2] 1 false g := by
  unfold pr_
  refine kc_go (k := kk_34) in_k34 rfl (by decide) hG hx (vs := [pvR 0, .inl x1, .inl x2]) (xs := [cv (pvR 0), x1.toInt, x2.toInt]) ⟨by decide, ⟨⟨pvR 0, rfl, rfl, rfl, ok_0⟩, ⟨.inl x1, rfl, rfl, rfl, ok_full32 _⟩, ⟨.inl x2, rfl, rfl, rfl, ok_full32 _⟩, trivial⟩, trivial, fun c hc => by cases hc⟩ rfl (n := 1) (by decide +kernel) (fun v1 g1 c1 G1 X1 M1 => ⟨v1, rfl, c1, ?_⟩)
  refine kc_go (k := kk_35) in_k35 rfl (by decide) G1 X1 (vs := [pvR 196, .inl x1, .inl x2]) (xs := [cv (pvR 196), x1.toInt, x2.toInt]) ⟨by decide, ⟨⟨pvR 196, rfl, rfl, rfl, ok_this⟩, ⟨.inl x1, rfl, rfl, rfl, ok_full32 _⟩, ⟨.inl x2, rfl, rfl, rfl, ok_full32 _⟩, trivial⟩, trivial, fun c hc => by cases hc⟩ rfl (n := 1) (by decide +kernel) (fun v2 g2 c2 G2 X2 M2 => ⟨v2, rfl, c2, G2, X2, R0_f M2 mk_23 (R0_f M1 mk_22 hR), fun z => by cases z⟩)
theorem mk_24 : kk_40.2.2.2.1 &&& mR0 = 0 := by decide +kernel
theorem mk_25 : kk_41.2.2.2.1 &&& mR0 = 0 := by decide +kernel
theorem pr_clue {g : pH} (hG : g_I eG g) (hx : xL g) (hR : R0 g) (x1 x2 : Int32) : pr_ R0 111 177 [.inl x1, .inl x2] 0 false g := by
  unfold pr_
  refine kc_go (k := kk_40) in_k40 rfl (by decide) hG hx (vs := [pvR 0, .inl x1, .inl x2]) (xs := [cv (pvR 0), x1.toInt, x2.toInt]) ⟨by decide, ⟨⟨pvR 0, rfl, rfl, rfl, ok_0⟩, ⟨.inl x1, rfl, rfl, rfl, ok_full32 _⟩, ⟨.inl x2, rfl, rfl, rfl, ok_full32 _⟩, trivial⟩, trivial, fun c hc => by cases hc⟩ rfl (n := 0) (by decide +kernel) (fun v1 g1 c1 G1 X1 M1 => ⟨v1, rfl, c1, ?_⟩)
  refine kc_go (k := kk_41) in_k41 rfl (by decide) G1 X1 (vs := [pvR 196, .inl x1, .inl x2]) (xs := [cv (pvR 196), x1.toInt, x2.toInt]) ⟨by decide, ⟨⟨pvR 196, rfl, rfl, rfl, ok_this⟩, ⟨.inl x1, rfl, rfl, rfl, ok_full32 _⟩, ⟨.inl x2, rfl, rfl, rfl, ok_full32 _⟩, trivial⟩, trivial, fun c hc => by cases hc⟩ rfl (n := 0) (by decide +kernel) (fun v2 g2 c2 G2 X2 M2 => ⟨v2, rfl, c2, G2, X2, R0_f M2 mk_25 (R0_f M1 mk_24 hR), fun z => by cases z⟩)
theorem mk_26 : kk_44.2.2.2.1 &&& mR0 = 0 := by decide +kernel
theorem mk_27 : kk_45.2.2.2.1 &&& mR0 = 0 := by decide +kernel
theorem pr_shadow {g : pH} (hG : g_I eG g) (hx : xL g) (hR : R0 g) (x1 x2 x3 : Int32) : pr_ R0 145 246 [.inl x1, .inl x2, .inl x3] 0 false g := by
  unfold pr_
  refine kc_go (k := kk_44) in_k44 rfl (by decide) hG hx (vs := [pvR 0, .inl x1, .inl x2, .inl x3]) (xs := [cv (pvR 0), x1.toInt, x2.toInt, x3.toInt]) ⟨by decide, ⟨⟨pvR 0, rfl, rfl, rfl, ok_0⟩, ⟨.inl x1, rfl, rfl, rfl, ok_full32 _⟩, ⟨.inl x2, rfl, rfl, rfl, ok_full32 _⟩, ⟨.inl x3, rfl, rfl, rfl, ok_full32 _⟩, trivial⟩, trivial, fun c hc => by cases hc⟩ rfl (n := 0) (by decide +kernel) (fun v1 g1 c1 G1 X1 M1 => ⟨v1, rfl, c1, ?_⟩)
  refine kc_go (k := kk_45) in_k45 rfl (by decide) G1 X1 (vs := [pvR 196, .inl x1, .inl x2, .inl x3]) (xs := [cv (pvR 196), x1.toInt, x2.toInt, x3.toInt]) ⟨by decide, ⟨⟨pvR 196, rfl, rfl, rfl, ok_this⟩, ⟨.inl x1, rfl, rfl, rfl, ok_full32 _⟩, ⟨.inl x2, rfl, rfl, rfl, ok_full32 _⟩, ⟨.inl x3, rfl, rfl, rfl, ok_full32 _⟩, trivial⟩, trivial, fun c hc => by cases hc⟩ rfl (n := 0) (by decide +kernel) (fun v2 g2 c2 G2 X2 M2 => ⟨v2, rfl, c2, G2, X2, R0_f M2 mk_27 (R0_f M1 mk_26 hR), fun z => by cases z⟩)
theorem mk_28 : kk_46.2.2.2.1 &&& mR0 = 0 := by decide +kernel
theorem mk_29 : kk_47.2.2.2.1 &&& mR0 = 0 := by decide +kernel
theorem pr_link {g : pH} (hG : g_I eG g) (hx : xL g) (hR : R0 g) (x1 x2 : Int32) : pr_ R0 133 220 [.inl x1, .inl x2] 0 false g := by
  unfold pr_
  refine kc_go (k := kk_46) in_k46 rfl (by decide) hG hx (vs := [pvR 0, .inl x1, .inl x2]) (xs := [cv (pvR 0), x1.toInt, x2.toInt]) ⟨by decide, ⟨⟨pvR 0, rfl, rfl, rfl, ok_0⟩, ⟨.inl x1, rfl, rfl, rfl, ok_full32 _⟩, ⟨.inl x2, rfl, rfl, rfl, ok_full32 _⟩, trivial⟩, trivial, fun c hc => by cases hc⟩ rfl (n := 0) (by decide +kernel) (fun v1 g1 c1 G1 X1 M1 => ⟨v1, rfl, c1, ?_⟩)
  refine kc_go (k := kk_47) in_k47 rfl (by decide) G1 X1 (vs := [pvR 196, .inl x1, .inl x2]) (xs := [cv (pvR 196), x1.toInt, x2.toInt]) ⟨by decide, ⟨⟨pvR 196, rfl, rfl, rfl, ok_this⟩, ⟨.inl x1, rfl, rfl, rfl, ok_full32 _⟩, ⟨.inl x2, rfl, rfl, rfl, ok_full32 _⟩, trivial⟩, trivial, fun c hc => by cases hc⟩ rfl (n := 0) (by decide +kernel) (fun v2 g2 c2 G2 X2 M2 => ⟨v2, rfl, c2, G2, X2, R0_f M2 mk_29 (R0_f M1 mk_28 hR), fun z => by cases z⟩)
theorem mk_30 : kk_48.2.2.2.1 &&& mR0 = 0 := by decide +kernel
theorem mk_31 : kk_49.2.2.2.1 &&& mR0 = 0 := by decide +kernel
theorem pr_leftOut {g : pH} (hG : g_I eG g) (hx : xL g) (hR : R0 g) (x1 x2 : Int32) : pr_ R0 131 218 [.inl x1, .inl x2] 0 false g := by
  unfold pr_
  refine kc_go (k := kk_48) in_k48 rfl (by decide) hG hx (vs := [pvR 0, .inl x1, .inl x2]) (xs := [cv (pvR 0), x1.toInt, x2.toInt]) ⟨by decide, ⟨⟨pvR 0, rfl, rfl, rfl, ok_0⟩, ⟨.inl x1, rfl, rfl, rfl, ok_full32 _⟩, ⟨.inl x2, rfl, rfl, rfl, ok_full32 _⟩, trivial⟩, trivial, fun c hc => by cases hc⟩ rfl (n := 0) (by decide +kernel) (fun v1 g1 c1 G1 X1 M1 => ⟨v1, rfl, c1, ?_⟩)
  refine kc_go (k := kk_49) in_k49 rfl (by decide) G1 X1 (vs := [pvR 196, .inl x1, .inl x2]) (xs := [cv (pvR 196), x1.toInt, x2.toInt]) ⟨by decide, ⟨⟨pvR 196, rfl, rfl, rfl, ok_this⟩, ⟨.inl x1, rfl, rfl, rfl, ok_full32 _⟩, ⟨.inl x2, rfl, rfl, rfl, ok_full32 _⟩, trivial⟩, trivial, fun c hc => by cases hc⟩ rfl (n := 0) (by decide +kernel) (fun v2 g2 c2 G2 X2 M2 => ⟨v2, rfl, c2, G2, X2, R0_f M2 mk_31 (R0_f M1 mk_30 hR), fun z => by cases z⟩)
theorem mk_32 : kk_50.2.2.2.1 &&& mR0 = 0 := by decide +kernel
theorem mk_33 : kk_51.2.2.2.1 &&& mR0 = 0 := by decide +kernel
theorem pr_lamp {g : pH} (hG : g_I eG g) (hx : xL g) (hR : R0 g) (x1 x2 x3 : Int32) : pr_ R0 127 210 [.inl x1, .inl x2, .inl x3] 1 false g := by
  unfold pr_
  refine kc_go (k := kk_50) in_k50 rfl (by decide) hG hx (vs := [pvR 0, .inl x1, .inl x2, .inl x3]) (xs := [cv (pvR 0), x1.toInt, x2.toInt, x3.toInt]) ⟨by decide, ⟨⟨pvR 0, rfl, rfl, rfl, ok_0⟩, ⟨.inl x1, rfl, rfl, rfl, ok_full32 _⟩, ⟨.inl x2, rfl, rfl, rfl, ok_full32 _⟩, ⟨.inl x3, rfl, rfl, rfl, ok_full32 _⟩, trivial⟩, trivial, fun c hc => by cases hc⟩ rfl (n := 1) (by decide +kernel) (fun v1 g1 c1 G1 X1 M1 => ⟨v1, rfl, c1, ?_⟩)
  refine kc_go (k := kk_51) in_k51 rfl (by decide) G1 X1 (vs := [pvR 196, .inl x1, .inl x2, .inl x3]) (xs := [cv (pvR 196), x1.toInt, x2.toInt, x3.toInt]) ⟨by decide, ⟨⟨pvR 196, rfl, rfl, rfl, ok_this⟩, ⟨.inl x1, rfl, rfl, rfl, ok_full32 _⟩, ⟨.inl x2, rfl, rfl, rfl, ok_full32 _⟩, ⟨.inl x3, rfl, rfl, rfl, ok_full32 _⟩, trivial⟩, trivial, fun c hc => by cases hc⟩ rfl (n := 1) (by decide +kernel) (fun v2 g2 c2 G2 X2 M2 => ⟨v2, rfl, c2, G2, X2, R0_f M2 mk_33 (R0_f M1 mk_32 hR), fun z => by cases z⟩)
theorem mk_34 : kk_52.2.2.2.1 &&& mR0 = 0 := by decide +kernel
theorem mk_35 : kk_53.2.2.2.1 &&& mR0 = 0 := by decide +kernel
theorem pr_hand {g : pH} (hG : g_I eG g) (hx : xL g) (hR : R0 g) (x1 : Int32) : pr_ R0 121 195 [.inl x1] 1 false g := by
  unfold pr_
  refine kc_go (k := kk_52) in_k52 rfl (by decide) hG hx (vs := [pvR 0, .inl x1]) (xs := [cv (pvR 0), x1.toInt]) ⟨by decide, ⟨⟨pvR 0, rfl, rfl, rfl, ok_0⟩, ⟨.inl x1, rfl, rfl, rfl, ok_full32 _⟩, trivial⟩, trivial, fun c hc => by cases hc⟩ rfl (n := 1) (by decide +kernel) (fun v1 g1 c1 G1 X1 M1 => ⟨v1, rfl, c1, ?_⟩)
  refine kc_go (k := kk_53) in_k53 rfl (by decide) G1 X1 (vs := [pvR 196, .inl x1]) (xs := [cv (pvR 196), x1.toInt]) ⟨by decide, ⟨⟨pvR 196, rfl, rfl, rfl, ok_this⟩, ⟨.inl x1, rfl, rfl, rfl, ok_full32 _⟩, trivial⟩, trivial, fun c hc => by cases hc⟩ rfl (n := 1) (by decide +kernel) (fun v2 g2 c2 G2 X2 M2 => ⟨v2, rfl, c2, G2, X2, R0_f M2 mk_35 (R0_f M1 mk_34 hR), fun z => by cases z⟩)
theorem mk_36 : kk_55.2.2.2.1 &&& mR0 = 0 := by decide +kernel
theorem mk_37 : kk_56.2.2.2.1 &&& mR0 = 0 := by decide +kernel
theorem pr_seed {g : pH} (hG : g_I eG g) (hx : xL g) (hR : R0 g) (x1 : Int32) : pr_ R0 144 245 [.inl x1] 0 false g := by
  unfold pr_
  refine kc_go (k := kk_55) in_k55 rfl (by decide) hG hx (vs := [pvR 0, .inl x1]) (xs := [cv (pvR 0), x1.toInt]) ⟨by decide, ⟨⟨pvR 0, rfl, rfl, rfl, ok_0⟩, ⟨.inl x1, rfl, rfl, rfl, ok_full32 _⟩, trivial⟩, trivial, fun c hc => by cases hc⟩ rfl (n := 0) (by decide +kernel) (fun v1 g1 c1 G1 X1 M1 => ⟨v1, rfl, c1, ?_⟩)
  refine kc_go (k := kk_56) in_k56 rfl (by decide) G1 X1 (vs := [pvR 196, .inl x1]) (xs := [cv (pvR 196), x1.toInt]) ⟨by decide, ⟨⟨pvR 196, rfl, rfl, rfl, ok_this⟩, ⟨.inl x1, rfl, rfl, rfl, ok_full32 _⟩, trivial⟩, trivial, fun c hc => by cases hc⟩ rfl (n := 0) (by decide +kernel) (fun v2 g2 c2 G2 X2 M2 => ⟨v2, rfl, c2, G2, X2, R0_f M2 mk_37 (R0_f M1 mk_36 hR), fun z => by cases z⟩)
theorem mk_38 : kk_63.2.2.2.1 &&& mR0 = 0 := by decide +kernel
theorem mk_39 : kk_64.2.2.2.1 &&& mR0 = 0 := by decide +kernel
theorem pr_count {g : pH} (hG : g_I eG g) (hx : xL g) (hR : R0 g) (x1 : Int32) : pr_ R0 115 182 [.inl x1] 0 false g := by
  unfold pr_
  refine kc_go (k := kk_63) in_k63 rfl (by decide) hG hx (vs := [pvR 0, .inl x1]) (xs := [cv (pvR 0), x1.toInt]) ⟨by decide, ⟨⟨pvR 0, rfl, rfl, rfl, ok_0⟩, ⟨.inl x1, rfl, rfl, rfl, ok_full32 _⟩, trivial⟩, trivial, fun c hc => by cases hc⟩ rfl (n := 0) (by decide +kernel) (fun v1 g1 c1 G1 X1 M1 => ⟨v1, rfl, c1, ?_⟩)
  refine kc_go (k := kk_64) in_k64 rfl (by decide) G1 X1 (vs := [pvR 196, .inl x1]) (xs := [cv (pvR 196), x1.toInt]) ⟨by decide, ⟨⟨pvR 196, rfl, rfl, rfl, ok_this⟩, ⟨.inl x1, rfl, rfl, rfl, ok_full32 _⟩, trivial⟩, trivial, fun c hc => by cases hc⟩ rfl (n := 0) (by decide +kernel) (fun v2 g2 c2 G2 X2 M2 => ⟨v2, rfl, c2, G2, X2, R0_f M2 mk_39 (R0_f M1 mk_38 hR), fun z => by cases z⟩)
theorem mk_40 : kk_54.2.2.2.1 &&& mR0 = 0 := by decide +kernel
theorem mk_41 : Wp &&& mR0 = 0 := by decide +kernel
theorem pr_putIn {g : pH} (hG : g_I eG g) (hx : xL g) (hR : R0 g) : pr_ R0 140 232 [] 0 false g := by
  unfold pr_
  refine kc_go (k := kk_54) in_k54 rfl (by decide) hG hx (vs := [pvR 0]) (xs := [cv (pvR 0)]) ⟨by decide, ⟨⟨pvR 0, rfl, rfl, rfl, ok_0⟩, trivial⟩, trivial, fun c hc => by cases hc⟩ rfl (n := 0) (by decide +kernel) (fun v1 g1 c1 G1 X1 M1 => ⟨v1, rfl, c1, ?_⟩)
  exact pi_run (by decide) (by decide) G1 X1 (fun g2 z2 J2 => ⟨_, rfl, rfl, J2.1, xL_K _ _ _ J2.2 Wp_1.2.2.1 X1, R0_f J2.2 mk_41 (R0_f M1 mk_40 hR), fun z => by cases z⟩) rfl
theorem mk_42 : kcpu_a.2.2.2.1 &&& mR0 = 0 := by decide +kernel
theorem mk_43 : kmpu_a.2.2.2.1 &&& mR0 = 0 := by decide +kernel
theorem pr_put {g : pH} (hG : g_I eG g) (hx : xL g) (hR : R0 g) (x1 x2 : Int32) : pr_ R0 139 231 [.inl x1, .inl x2] 0 true g := by
  unfold pr_
  refine cpu_run (i := x1.toInt) (w := x2.toInt) (by decide) (by decide) hG hx hR.1.1 (i32_b _) (i32_b _) (fun g1 G1 X1 M1 z1 => ?_) (fun g1 G1 X1 M1 e1 z1 => ?_) rfl (congrArg some (oI_r x1)) (congrArg some (oI_r x2))
  · have R1 := R0_f M1 mk_42 hR
    refine ⟨_, rfl, rfl, mpu_run (i := x1.toInt) (w := x2.toInt) (by decide) (by decide) G1 X1 (i32_b _) (i32_b _) (fun g2 G2 X2 M2 z2 => ?_) (fun g2 G2 X2 M2 e2 z2 => ?_) rfl (congrArg some (oI_r x1)) (congrArg some (oI_r x2))⟩
    · exact ⟨_, rfl, rfl, G2, X2, R0_f M2 mk_43 R1, fun _ => rfl⟩
    · exact absurd ⟨(to_iff R1.1).mp (toC_f M1 mk_42 z1.1), z1.2⟩ z2
  · have R1 := R0_f M1 mk_42 hR
    refine ⟨_, rfl, rfl, mpu_run (i := x1.toInt) (w := x2.toInt) (by decide) (by decide) G1 X1 (i32_b _) (i32_b _) (fun g2 G2 X2 M2 z2 => ?_) (fun g2 G2 X2 M2 e2 z2 => ?_) rfl (congrArg some (oI_r x1)) (congrArg some (oI_r x2))⟩
    · exact absurd ⟨toC_b M1 mk_42 ((to_iff R1.1).mpr z2.1), z2.2⟩ z1
    · exact ⟨_, rfl, rfl, G2, X2, R0_f M2 mk_43 R1, fun _ => rfl⟩
theorem mk_44 : kcda_a.2.2.2.1 &&& mR0 = 0 := by decide +kernel
theorem mk_45 : kmda_a.2.2.2.1 &&& mR0 = 0 := by decide +kernel
theorem pr_day {g : pH} (hG : g_I eG g) (hx : xL g) (hR : R0 g) (x1 x2 : Int32) : pr_ R0 116 183 [.inl x1, .inl x2] 0 true g := by
  unfold pr_
  refine cda_run (i := x1.toInt) (w := x2.toInt) (by decide) (by decide) hG hx hR.1.1 (i32_b _) (i32_b _) (fun g1 G1 X1 M1 z1 => ?_) (fun g1 G1 X1 M1 e1 z1 => ?_) rfl (congrArg some (oI_r x1)) (congrArg some (oI_r x2))
  · have R1 := R0_f M1 mk_44 hR
    refine ⟨_, rfl, rfl, mda_run (i := x1.toInt) (w := x2.toInt) (by decide) (by decide) G1 X1 (i32_b _) (i32_b _) (fun g2 G2 X2 M2 z2 => ?_) (fun g2 G2 X2 M2 e2 z2 => ?_) rfl (congrArg some (oI_r x1)) (congrArg some (oI_r x2))⟩
    · exact ⟨_, rfl, rfl, G2, X2, R0_f M2 mk_45 R1, fun _ => rfl⟩
    · exact absurd ⟨(to_iff R1.1).mp (toC_f M1 mk_44 z1.1), z1.2⟩ z2
  · have R1 := R0_f M1 mk_44 hR
    refine ⟨_, rfl, rfl, mda_run (i := x1.toInt) (w := x2.toInt) (by decide) (by decide) G1 X1 (i32_b _) (i32_b _) (fun g2 G2 X2 M2 z2 => ?_) (fun g2 G2 X2 M2 e2 z2 => ?_) rfl (congrArg some (oI_r x1)) (congrArg some (oI_r x2))⟩
    · exact absurd ⟨toC_b M1 mk_44 ((to_iff R1.1).mpr z2.1), z2.2⟩ z1
    · exact ⟨_, rfl, rfl, G2, X2, R0_f M2 mk_45 R1, fun _ => rfl⟩
theorem mk_46 : kcsu_a.2.2.2.1 &&& mR0 = 0 := by decide +kernel
theorem mk_47 : kmsu_a.2.2.2.1 &&& mR0 = 0 := by decide +kernel
theorem pr_sure {g : pH} (hG : g_I eG g) (hx : xL g) (hR : R0 g) (x1 x2 : Int32) : pr_ R0 150 258 [.inl x1, .inl x2] 0 true g := by
  unfold pr_
  refine csu_run (i := x1.toInt) (w := x2.toInt) (by decide) (by decide) hG hx hR.1.1 (i32_b _) (i32_b _) (fun g1 G1 X1 M1 z1 => ?_) (fun g1 G1 X1 M1 e1 z1 => ?_) rfl (congrArg some (oI_r x1)) (congrArg some (oI_r x2))
  · have R1 := R0_f M1 mk_46 hR
    refine ⟨_, rfl, rfl, msu_run (i := x1.toInt) (w := x2.toInt) (by decide) (by decide) G1 X1 (i32_b _) (i32_b _) (fun g2 G2 X2 M2 z2 => ?_) (fun g2 G2 X2 M2 e2 z2 => ?_) rfl (congrArg some (oI_r x1)) (congrArg some (oI_r x2))⟩
    · exact ⟨_, rfl, rfl, G2, X2, R0_f M2 mk_47 R1, fun _ => rfl⟩
    · exact absurd ⟨(to_iff R1.1).mp (toC_f M1 mk_46 z1.1), z1.2⟩ z2
  · have R1 := R0_f M1 mk_46 hR
    refine ⟨_, rfl, rfl, msu_run (i := x1.toInt) (w := x2.toInt) (by decide) (by decide) G1 X1 (i32_b _) (i32_b _) (fun g2 G2 X2 M2 z2 => ?_) (fun g2 G2 X2 M2 e2 z2 => ?_) rfl (congrArg some (oI_r x1)) (congrArg some (oI_r x2))⟩
    · exact absurd ⟨toC_b M1 mk_46 ((to_iff R1.1).mpr z2.1), z2.2⟩ z1
    · exact ⟨_, rfl, rfl, G2, X2, R0_f M2 mk_47 R1, fun _ => rfl⟩
end
section
/-! the tie: ops that read the tape, as pairs (printed by wip/e2/t9.py) -/
theorem toC_e {W : Nat} {g g1 : pH} (hM : f_M W g g1) (hW : W &&& mR1 = 0) {i : Int} : toC g i ↔ toC g1 i := by
  constructor
  · rintro ⟨m, h1, h2, h3⟩
    exact ⟨m, h1, h2, by rw [cF_M hM (mx_f hW (mR1_b.2.2.2.2.2.2.2.2.1 m h1))]; exact h3⟩
  · rintro ⟨m, h1, h2, h3⟩
    exact ⟨m, h1, h2, by rw [← cF_M hM (mx_f hW (mR1_b.2.2.2.2.2.2.2.2.1 m h1))]; exact h3⟩
theorem b1_ (c : Nat) : (2 ^ c).testBit c = true := Nat.testBit_two_pow_self
theorem mj_0 : kcty_a.2.2.2.1 &&& mR1 = 0 := by decide +kernel
theorem mj_1 : Wt &&& mR1 = 0 := by decide +kernel
theorem mj_2 : kcty_a.2.2.2.1 &&& 2 ^ (cn 196 + 17) = 0 := by decide +kernel
theorem mj_3 : Wt &&& 2 ^ (cn 0 + 1) = 0 := by decide +kernel
theorem pr_tray {g : pH} (hG : g_I eG g) (hx : xL g) (hR : R0 g) (x1 : Int32) : pr_ R0 157 264 [.inl x1] 0 false g := by
  unfold pr_
  have hl := hR.2
  refine cty_run (n := x1.toInt) (by decide) (by decide) hG hx (i32_b _) (fun v1 g1 G1 X1 M1 t1 z1 => ?_) (fun g1 G1 X1 M1 e1 z1 => ?_) rfl (congrArg some (oI_r x1))
  · have Q1 := R1_f M1 mj_0 hR.1
    have k1 : cF g1 196 17 = cF g 196 17 := cF_M M1 (mx_f mj_2 (b1_ _))
    have k3 : fF g1 17 = cF g 196 17 := k1
    refine ⟨_, rfl, rfl, ty9_run (n := x1.toInt) (by decide) G1 (i32_b _) (fun z2 g2 v2 J2 t2 => ?_) (fun z2 => ?_) rfl (congrArg some (oI_r x1))⟩
    · exact ⟨_, rfl, rfl, J2.1, xL_K _ _ _ J2.2 Wt_a.2.2.2.2 X1, ⟨R1_f J2.2 mj_1 Q1, by rw [cF_M J2.2 (mx_f mj_3 (b1_ _)), t1]; exact t2.symm⟩, fun z => by cases z⟩
    · exfalso; omega
  · have Q1 := R1_f M1 mj_0 hR.1
    have k1 : cF g1 196 17 = cF g 196 17 := cF_M M1 (mx_f mj_2 (b1_ _))
    have k3 : fF g1 17 = cF g 196 17 := k1
    refine ⟨_, rfl, rfl, ty9_run (n := x1.toInt) (by decide) G1 (i32_b _) (fun z2 g2 v2 J2 t2 => ?_) (fun z2 => ?_) rfl (congrArg some (oI_r x1))⟩
    · exfalso; omega
    · exact ⟨_, rfl, rfl, G1, X1, ⟨Q1, by rw [e1, e1]; exact hl⟩, fun z => by cases z⟩
theorem mj_4 : kclw_a.2.2.2.1 &&& mR1 = 0 := by decide +kernel
theorem mj_5 : WL &&& mR1 = 0 := by decide +kernel
theorem mj_6 : kclw_a.2.2.2.1 &&& 2 ^ (cn 196 + 17) = 0 := by decide +kernel
theorem mj_7 : WL &&& 2 ^ (cn 0 + 1) = 0 := by decide +kernel
theorem pr_law {g : pH} (hG : g_I eG g) (hx : xL g) (hR : R0 g) (x1 : Int32) : pr_ R0 129 213 [.inl x1] 0 false g := by
  unfold pr_
  have hl := hR.2
  refine clw_run (n := x1.toInt) (by decide) (by decide) hG hx (i32_b _) (fun v1 g1 G1 X1 M1 t1 z1 => ?_) (fun g1 G1 X1 M1 e1 z1 => ?_) rfl (congrArg some (oI_r x1))
  · have Q1 := R1_f M1 mj_4 hR.1
    have k1 : cF g1 196 17 = cF g 196 17 := cF_M M1 (mx_f mj_6 (b1_ _))
    have k3 : fF g1 17 = cF g 196 17 := k1
    refine ⟨_, rfl, rfl, lw9_run (n := x1.toInt) (by decide) G1 X1 (i32_b _) (fun z2 g2 v2 J2 X2 t2 => ?_) (fun z2 => ?_) rfl (congrArg some (oI_r x1))⟩
    · exact ⟨_, rfl, rfl, J2.1, X2, ⟨R1_f J2.2 mj_5 Q1, by rw [cF_M J2.2 (mx_f mj_7 (b1_ _)), t1]; exact t2.symm⟩, fun z => by cases z⟩
    · exfalso; omega
  · have Q1 := R1_f M1 mj_4 hR.1
    have k1 : cF g1 196 17 = cF g 196 17 := cF_M M1 (mx_f mj_6 (b1_ _))
    have k3 : fF g1 17 = cF g 196 17 := k1
    refine ⟨_, rfl, rfl, lw9_run (n := x1.toInt) (by decide) G1 X1 (i32_b _) (fun z2 g2 v2 J2 X2 t2 => ?_) (fun z2 => ?_) rfl (congrArg some (oI_r x1))⟩
    · exfalso; omega
    · exact ⟨_, rfl, rfl, G1, X1, ⟨Q1, by rw [e1, e1]; exact hl⟩, fun z => by cases z⟩
theorem mj_8 : kcsp_a.2.2.2.1 &&& mR1 = 0 := by decide +kernel
theorem mj_9 : Ws &&& mR1 = 0 := by decide +kernel
theorem mj_10 : kcsp_a.2.2.2.1 &&& 2 ^ (cn 196 + 17) = 0 := by decide +kernel
theorem mj_11 : Ws &&& 2 ^ (cn 0 + 1) = 0 := by decide +kernel
theorem pr_spilt {g : pH} (hG : g_I eG g) (hx : xL g) (hR : R0 g) (x1 x2 : Int32) : pr_ R0 149 254 [.inl x1, .inl x2] 1 false g := by
  unfold pr_
  have hl := hR.2
  refine csp_run (n := x1.toInt) (w := x2.toInt) (by decide) (by decide) hG hx (i32_b _) (i32_b _) (fun v1 g1 G1 X1 M1 t1 z1 => ?_) (fun v1 g1 G1 X1 M1 e1 z1 => ?_) rfl (congrArg some (oI_r x1)) (congrArg some (oI_r x2))
  · have Q1 := R1_f M1 mj_8 hR.1
    have k1 : cF g1 196 17 = cF g 196 17 := cF_M M1 (mx_f mj_10 (b1_ _))
    have k3 : fF g1 17 = cF g 196 17 := k1
    refine ⟨_, rfl, rfl, sp9_run (n := x1.toInt) (w := x2.toInt) (by decide) G1 (i32_b _) (i32_b _) (fun z2 g2 v2 J2 t2 => ?_) (fun v2 z2 => ?_) rfl (congrArg some (oI_r x1)) (congrArg some (oI_r x2))⟩
    · exact ⟨_, rfl, rfl, J2.1, xL_K _ _ _ J2.2 Ws_1.2.1 X1, ⟨R1_f J2.2 mj_9 Q1, by rw [cF_M J2.2 (mx_f mj_11 (b1_ _)), t1]; exact t2.symm⟩, fun z => by cases z⟩
    · exfalso; omega
  · have Q1 := R1_f M1 mj_8 hR.1
    have k1 : cF g1 196 17 = cF g 196 17 := cF_M M1 (mx_f mj_10 (b1_ _))
    have k3 : fF g1 17 = cF g 196 17 := k1
    refine ⟨_, rfl, rfl, sp9_run (n := x1.toInt) (w := x2.toInt) (by decide) G1 (i32_b _) (i32_b _) (fun z2 g2 v2 J2 t2 => ?_) (fun v2 z2 => ?_) rfl (congrArg some (oI_r x1)) (congrArg some (oI_r x2))⟩
    · exfalso; omega
    · exact ⟨_, rfl, rfl, G1, X1, ⟨Q1, by rw [e1, e1]; exact hl⟩, fun z => by cases z⟩
theorem mj_12 : kcsy_a.2.2.2.1 &&& mR1 = 0 := by decide +kernel
theorem mj_13 : kcsy_a.2.2.2.1 &&& 2 ^ (cn 196 + 17) = 0 := by decide +kernel
theorem pr_says {g : pH} (hG : g_I eG g) (hx : xL g) (hR : R0 g) (x1 x2 x3 x4 : Int32) : pr_ R0 142 243 [.inl x1, .inl x2, .inl x3, .inl x4] 1 false g := by
  unfold pr_
  have hl := hR.2
  refine csy_run (n := x1.toInt) (i := x2.toInt) (j := x3.toInt) (w := x4.toInt) (by decide) (by decide) hG hx (i32_b _) (i32_b _) (i32_b _) (i32_b _) (fun v1 g1 G1 X1 M1 t1 z1 => ?_) (fun v1 g1 G1 X1 M1 e1 z1 => ?_) rfl (congrArg some (oI_r x1)) (congrArg some (oI_r x2)) (congrArg some (oI_r x3)) (congrArg some (oI_r x4))
  · have Q1 := R1_f M1 mj_12 hR.1
    have k1 : cF g1 196 17 = cF g 196 17 := cF_M M1 (mx_f mj_13 (b1_ _))
    have k3 : fF g1 17 = cF g 196 17 := k1
    refine ⟨_, rfl, rfl, sy9_run (n := x1.toInt) (i := x2.toInt) (j := x3.toInt) (w := x4.toInt) (by decide) G1 (i32_b _) (i32_b _) (i32_b _) (i32_b _) (fun z2 g2 v2 J2 t2 => ?_) (fun v2 z2 => ?_) rfl (congrArg some (oI_r x1)) (congrArg some (oI_r x2)) (congrArg some (oI_r x3)) (congrArg some (oI_r x4))⟩
    · exact ⟨_, rfl, rfl, J2.1, xL_K _ _ _ J2.2 Ws_1.2.1 X1, ⟨R1_f J2.2 mj_9 Q1, by rw [cF_M J2.2 (mx_f mj_11 (b1_ _)), t1]; exact t2.symm⟩, fun z => by cases z⟩
    · exfalso; omega
  · have Q1 := R1_f M1 mj_12 hR.1
    have k1 : cF g1 196 17 = cF g 196 17 := cF_M M1 (mx_f mj_13 (b1_ _))
    have k3 : fF g1 17 = cF g 196 17 := k1
    refine ⟨_, rfl, rfl, sy9_run (n := x1.toInt) (i := x2.toInt) (j := x3.toInt) (w := x4.toInt) (by decide) G1 (i32_b _) (i32_b _) (i32_b _) (i32_b _) (fun z2 g2 v2 J2 t2 => ?_) (fun v2 z2 => ?_) rfl (congrArg some (oI_r x1)) (congrArg some (oI_r x2)) (congrArg some (oI_r x3)) (congrArg some (oI_r x4))⟩
    · exfalso; omega
    · exact ⟨_, rfl, rfl, G1, X1, ⟨Q1, by rw [e1, e1]; exact hl⟩, fun z => by cases z⟩
theorem mj_14 : kcod_a.2.2.2.1 &&& mR1 = 0 := by decide +kernel
theorem mj_15 : kmod_a.2.2.2.1 &&& mR1 = 0 := by decide +kernel
theorem mj_16 : kcod_a.2.2.2.1 &&& 2 ^ (cn 196 + 17) = 0 := by decide +kernel
theorem mj_17 : kmod_a.2.2.2.1 &&& 2 ^ (cn 0 + 1) = 0 := by decide +kernel
theorem pr_odds {g : pH} (hG : g_I eG g) (hx : xL g) (hR : R0 g) (x1 x2 x3 x4 : Int32) : pr_ R0 137 228 [.inl x1, .inl x2, .inl x3, .inl x4] 0 false g := by
  unfold pr_
  have hl := hR.2
  refine cod_run (i := x1.toInt) (w := x2.toInt) (n := x3.toInt) (q := x4.toInt) (by decide) (by decide) hG hx hR.1.1 (i32_b _) (i32_b _) (i32_b _) (i32_b _) (fun v1 g1 G1 X1 M1 t1 z1 => ?_) (fun g1 G1 X1 M1 e1 z1 => ?_) rfl (congrArg some (oI_r x1)) (congrArg some (oI_r x2)) (congrArg some (oI_r x3)) (congrArg some (oI_r x4))
  · have Q1 := R1_f M1 mj_14 hR.1
    have k1 : cF g1 196 17 = cF g 196 17 := cF_M M1 (mx_f mj_16 (b1_ _))
    have k2 := (toC_e M1 mj_14 (i := x1.toInt)).trans (to_iff Q1)
    refine ⟨_, rfl, rfl, mod_run (i := x1.toInt) (w := x2.toInt) (n := x3.toInt) (q := x4.toInt) (by decide) (by decide) G1 X1 (i32_b _) (i32_b _) (i32_b _) (i32_b _) (fun v2 g2 G2 X2 M2 t2 z2 => ?_) (fun g2 G2 X2 M2 e2 z2 => ?_) rfl (congrArg some (oI_r x1)) (congrArg some (oI_r x2)) (congrArg some (oI_r x3)) (congrArg some (oI_r x4))⟩
    · exact ⟨_, rfl, rfl, G2, X2, ⟨R1_f M2 mj_15 Q1, by rw [cF_M M2 (mx_f mj_17 (b1_ _)), t1]; exact t2.symm⟩, fun z => by cases z⟩
    · exact absurd (show _ from ⟨k2.mp z1.1, by have z3 := z1.2; omega⟩) z2
  · have Q1 := R1_f M1 mj_14 hR.1
    have k1 : cF g1 196 17 = cF g 196 17 := cF_M M1 (mx_f mj_16 (b1_ _))
    have k2 := (toC_e M1 mj_14 (i := x1.toInt)).trans (to_iff Q1)
    refine ⟨_, rfl, rfl, mod_run (i := x1.toInt) (w := x2.toInt) (n := x3.toInt) (q := x4.toInt) (by decide) (by decide) G1 X1 (i32_b _) (i32_b _) (i32_b _) (i32_b _) (fun v2 g2 G2 X2 M2 t2 z2 => ?_) (fun g2 G2 X2 M2 e2 z2 => ?_) rfl (congrArg some (oI_r x1)) (congrArg some (oI_r x2)) (congrArg some (oI_r x3)) (congrArg some (oI_r x4))⟩
    · exact absurd (show _ from ⟨k2.mpr z2.1, by have z3 := z2.2; omega⟩) z1
    · exact ⟨_, rfl, rfl, G2, X2, ⟨R1_f M2 mj_15 Q1, by rw [e2, e2, e1, e1]; exact hl⟩, fun z => by cases z⟩
theorem mj_18 : kcch_a.2.2.2.1 &&& mR1 = 0 := by decide +kernel
theorem mj_19 : kmch_a.2.2.2.1 &&& mR1 = 0 := by decide +kernel
theorem mj_20 : kcch_a.2.2.2.1 &&& 2 ^ (cn 196 + 17) = 0 := by decide +kernel
theorem mj_21 : kmch_a.2.2.2.1 &&& 2 ^ (cn 0 + 1) = 0 := by decide +kernel
theorem pr_check {g : pH} (hG : g_I eG g) (hx : xL g) (hR : R0 g) (x1 x2 : Int32) : pr_ R0 110 174 [.inl x1, .inl x2] 0 false g := by
  unfold pr_
  have hl := hR.2
  refine cch_run (i := x1.toInt) (n := x2.toInt) (by decide) (by decide) hG hx hR.1.1 (i32_b _) (i32_b _) (fun v1 g1 G1 X1 M1 t1 z1 => ?_) (fun g1 G1 X1 M1 e1 z1 => ?_) rfl (congrArg some (oI_r x1)) (congrArg some (oI_r x2))
  · have Q1 := R1_f M1 mj_18 hR.1
    have k1 : cF g1 196 17 = cF g 196 17 := cF_M M1 (mx_f mj_20 (b1_ _))
    have k2 := (toC_e M1 mj_18 (i := x1.toInt)).trans (to_iff Q1)
    refine ⟨_, rfl, rfl, mch_run (i := x1.toInt) (n := x2.toInt) (by decide) (by decide) G1 X1 (i32_b _) (i32_b _) (fun v2 g2 G2 X2 M2 t2 z2 => ?_) (fun g2 G2 X2 M2 e2 z2 => ?_) rfl (congrArg some (oI_r x1)) (congrArg some (oI_r x2))⟩
    · exact ⟨_, rfl, rfl, G2, X2, ⟨R1_f M2 mj_19 Q1, by rw [cF_M M2 (mx_f mj_21 (b1_ _)), t1]; exact t2.symm⟩, fun z => by cases z⟩
    · exact absurd (show _ from ⟨k2.mp z1.1, by have z3 := z1.2; omega⟩) z2
  · have Q1 := R1_f M1 mj_18 hR.1
    have k1 : cF g1 196 17 = cF g 196 17 := cF_M M1 (mx_f mj_20 (b1_ _))
    have k2 := (toC_e M1 mj_18 (i := x1.toInt)).trans (to_iff Q1)
    refine ⟨_, rfl, rfl, mch_run (i := x1.toInt) (n := x2.toInt) (by decide) (by decide) G1 X1 (i32_b _) (i32_b _) (fun v2 g2 G2 X2 M2 t2 z2 => ?_) (fun g2 G2 X2 M2 e2 z2 => ?_) rfl (congrArg some (oI_r x1)) (congrArg some (oI_r x2))⟩
    · exact absurd (show _ from ⟨k2.mpr z2.1, by have z3 := z2.2; omega⟩) z1
    · exact ⟨_, rfl, rfl, G2, X2, ⟨R1_f M2 mj_19 Q1, by rw [e2, e2, e1, e1]; exact hl⟩, fun z => by cases z⟩
end
section
/-! the tie: feed, slide, gone, keep, undo, as pairs (printed by wip/e2/t10.py) -/
/-- the cells of each thing that both sides know -/
def mS : Nat := 80695308690215893426747474125094121072803306025913234775958104891895238188026287332176417290004307232371974124152553472
def mT : Nat := 638668899051110339730039268171788341141584403339346413280815117579907805398068501051186548957643424348589582990141598478071180156285949971436534975451146054502401815344347416485612070862196155898449074158254055677865859345638678524444433685903374130402278690200241933325554718473710083176931328
def mN : Nat := 31488807865122869393368946606905258090427358510263056881902260126273268613620094029570654385546278232018613516882486860685488436192434164121779142526563531152528373449768351504896388927068416358529102272623214362421327389984361490675440337244530332776732521660416
def mK : Nat := 446105072543334918839418749444970168039378060497818337716731560687985187638036182684858509320571249526240329861708360427518264246140311834295312913755879678887103566502462125830953585215562544841041753667943651082860234292253505700128573641866339385607461716596262464466483406583103504
theorem mS_b : mS.testBit (cn 3) = true ∧ mS.testBit (cn 77) = true := by decide +kernel
theorem mT_b : mT.testBit (cn 1) = true ∧ mT.testBit (cn 211) = true := by decide +kernel
theorem mN_b : mN.testBit (cn 196 + 0) = true ∧ ∀ j, j < 32 → mN.testBit (cn (4 + 2 * j) + 2) = true := by decide +kernel
theorem mK_b : mK.testBit (cn 196 + 73) = true ∧ mK.testBit (cn 0 + 4) = true ∧ mK.testBit (cn 196 + 72) = true ∧ ∀ j, j < 32 → mK.testBit (cn (78 + 2 * j) + 2) = true := by decide +kernel
section FR
variable {W : Nat} {g g1 : pH}
theorem fr_S (hM : f_M W g g1) (hW : W &&& mS = 0) (h : rS g) : rS g1 := rS_M hM ⟨mx_f hW mS_b.1, mx_f hW mS_b.2⟩ h
theorem fr_T (hM : f_M W g g1) (hW : W &&& mT = 0) (h : tpR (fA g 1) (fA g 211)) : tpR (fA g1 1) (fA g1 211) := by
  rw [fA_M hM (mx_f hW mT_b.1), fA_M hM (mx_f hW mT_b.2)]
  exact h
theorem fr_N (hM : f_M W g g1) (hW : W &&& mN = 0) (h : rN g) : rN g1 := fun j hj => by
  rw [cF_M hM (mx_f hW (mN_b.2 j hj))]
  unfold bM
  rw [(hM.1 196 0 (mx_f hW mN_b.1)).1]
  exact h j hj
theorem fr_K (hM : f_M W g g1) (hW : W &&& mK = 0) (h : rK g) : rK g1 := by
  refine ⟨fun j hj => ?_, ?_⟩
  · rw [cF_M hM (mx_f hW (mK_b.2.2.2 j hj)), (hM.1 196 73 (mx_f hW mK_b.1)).1]
    exact h.1 j hj
  · rw [cF_M hM (mx_f hW mK_b.2.1), cF_M hM (mx_f hW mK_b.2.2.1)]
    exact h.2
theorem fr_n (hM : f_M W g g1) {m : Nat} (hW : W &&& 2 ^ m = 0) : W.testBit m = false := mx_f hW Nat.testBit_two_pow_self
end FR
theorem mi_0 : kk_0.2.2.2.1 &&& mS = 0 := by decide +kernel
theorem mi_1 : kk_0.2.2.2.1 &&& mN = 0 := by decide +kernel
theorem mi_2 : kk_0.2.2.2.1 &&& mK = 0 := by decide +kernel
theorem mi_3 : kk_1.2.2.2.1 &&& mS = 0 := by decide +kernel
theorem mi_4 : kk_1.2.2.2.1 &&& mN = 0 := by decide +kernel
theorem mi_5 : kk_1.2.2.2.1 &&& mK = 0 := by decide +kernel
theorem mi_6 : kk_0.2.2.2.1 &&& 2 ^ (cn 196 + 17) = 0 := by decide +kernel
theorem mi_7 : kk_1.2.2.2.1 &&& 2 ^ (cn 0 + 1) = 0 := by decide +kernel
theorem mi_8 : kk_0.2.2.2.1 &&& 2 ^ (cn 211) = 0 := by decide +kernel
theorem mi_9 : kk_1.2.2.2.1 &&& 2 ^ (cn 1) = 0 := by decide +kernel
theorem Wfe : kk_0.2.2.2.1.testBit (cn 1) = true ∧ kk_0.2.2.2.1.testBit (cn 0 + 1) = true ∧ kk_1.2.2.2.1.testBit (cn 211) = true ∧ kk_1.2.2.2.1.testBit (cn 196 + 17) = true ∧ kk_0.2.2.2.1 &&& eDX = 0 ∧ kk_1.2.2.2.1 &&& eDX = 0 := by decide +kernel
theorem pr_feed {g : pH} (hG : g_I eG g) (hx : xL g) (hR : R0 g) (x1 x2 x3 x4 x5 : Int32) : pr_ R0 119 189 [.inl x1, .inl x2, .inl x3, .inl x4, .inl x5] 0 true g := by
  unfold pr_
  have hl : cF g 0 1 = fF g 17 := hR.2
  obtain ⟨q1, q2, q3, q4⟩ := hR.1
  refine fc_run (by decide) Wfe.1 Wfe.2.1 (J_rf hG) (fun z1 => ?_) (fun g1 J1 z1 t1 f1 => ?_) rfl rfl rfl rfl rfl rfl
  · refine ⟨_, rfl, rfl, fm_run (by decide) Wfe.2.2.1 Wfe.2.2.2.1 (J_rf hG) (fun z2 => ?_) (fun g2 J2 z2 t2 f2 => ?_) rfl rfl rfl rfl rfl rfl⟩
    · exact ⟨_, rfl, rfl, hG, hx, hR, fun _ => rfl⟩
    · exfalso; omega
  · have k1 : fF g1 17 = fF g 17 := fF_M J1.2 (fr_n J1.2 mi_6)
    have X1 := xL_K _ _ _ J1.2 Wfe.2.2.2.2.1 hx
    refine ⟨_, rfl, rfl, fm_run (by decide) Wfe.2.2.1 Wfe.2.2.2.1 (J_rf J1.1) (fun z2 => ?_) (fun g2 J2 z2 t2 f2 => ?_) rfl rfl rfl rfl rfl rfl⟩
    · exfalso; omega
    · have k2 : cF g2 0 1 = cF g1 0 1 := cF_M J2.2 (fr_n J2.2 mi_7)
      have k3 : fA g1 211 = fA g 211 := fA_M J1.2 (fr_n J1.2 mi_8)
      have k4 : fA g2 1 = fA g1 1 := fA_M J2.2 (fr_n J2.2 mi_9)
      refine ⟨_, rfl, rfl, J2.1, xL_K _ _ _ J2.2 Wfe.2.2.2.2.2 X1, ⟨⟨fr_S J2.2 mi_3 (fr_S J1.2 mi_0 q1), ?_, fr_N J2.2 mi_4 (fr_N J1.2 mi_1 q3), fr_K J2.2 mi_5 (fr_K J1.2 mi_2 q4)⟩, ?_⟩, fun _ => ?_⟩
      · rw [k4, f1, f2, k3, k1, ← hl]
        exact tp_ap _ (tp_ap _ (tp_ap _ (tp_ap _ (tp_ap _ q2))))
      · rw [k2, t1, hl, ← k1]
        exact t2.symm
      · rw [hl, ← k1]
theorem mi_10 : kk_2.2.2.2.1 &&& mS = 0 := by decide +kernel
theorem mi_11 : kk_2.2.2.2.1 &&& mT = 0 := by decide +kernel
theorem mi_12 : kk_2.2.2.2.1 &&& mK = 0 := by decide +kernel
theorem mi_13 : kk_3.2.2.2.1 &&& mS = 0 := by decide +kernel
theorem mi_14 : kk_3.2.2.2.1 &&& mT = 0 := by decide +kernel
theorem mi_15 : kk_3.2.2.2.1 &&& mK = 0 := by decide +kernel
theorem mi_16 : kk_2.2.2.2.1 &&& 2 ^ (cn 196 + 17) = 0 := by decide +kernel
theorem mi_17 : kk_3.2.2.2.1 &&& 2 ^ (cn 0 + 1) = 0 := by decide +kernel
theorem mi_18 : kk_2.2.2.2.1 &&& 2 ^ (cn 196 + 0) = 0 := by decide +kernel
theorem mi_19 : kk_2.2.2.2.1 &&& 2 ^ (cn 211) = 0 := by decide +kernel
theorem ms_n : ∀ j, j < 32 → kk_3.2.2.2.1.testBit (cn (4 + 2 * j) + 2) = false := by decide +kernel
theorem pic_iff {g g1 : pH} (h : tpR (fA g 1) (fA g 211)) (e : fA g1 211 = fA g 211) : picC g ↔ picM g1 := by
  unfold picC picM
  rw [e]
  constructor
  · intro hp k hk
    have h1 := h k (by omega)
    have h2 := hp k hk
    omega
  · intro hp k hk
    have h1 := h k (by omega)
    have h2 := hp k hk
    omega
theorem pr_slide {g : pH} (hG : g_I eG g) (hx : xL g) (hR : R0 g) (x1 x2 x3 x4 : Int32) : pr_ R0 147 251 [.inl x1, .inl x2, .inl x3, .inl x4] 0 true g := by
  unfold pr_
  have hl : cF g 0 1 = cF g 196 17 := hR.2
  obtain ⟨q1, q2, q3, q4⟩ := hR.1
  refine cs_run (i := x1.toInt) (a := x2.toInt) (b := x3.toInt) (c := x4.toInt) (by decide) (by decide) hG hx q1 (i32_b _) (i32_b _) (i32_b _) (i32_b _) (fun m hm e1 z1 p1 g1 G1 X1 M1 t1 u1 n1 => ?_) (fun z1 p1 g1 G1 X1 M1 t1 u1 => ?_) (fun g1 G1 X1 M1 u1 z1 => ?_) rfl (congrArg some (oI_r x1)) (congrArg some (oI_r x2)) (congrArg some (oI_r x3)) (congrArg some (oI_r x4))
  all_goals
    have k1 : cF g1 196 17 = cF g 196 17 := cF_M M1 (fr_n M1 mi_16)
    have k2 : g1.1 196 0 = g.1 196 0 := (M1.1 196 0 (fr_n M1 mi_18)).1
    have k3 := pic_iff q2 (fA_M M1 (fr_n M1 mi_19))
    refine ⟨_, rfl, rfl, ms_run (i := x1.toInt) (a := x2.toInt) (b := x3.toInt) (c := x4.toInt) (by decide) (by decide) G1 X1 (i32_b _) (i32_b _) (i32_b _) (i32_b _) (fun m' hm' e2 z2 p2 g2 G2 X2 M2 t2 u2 => ?_) (fun z2 p2 g2 G2 X2 M2 t2 u2 => ?_) (fun g2 G2 X2 M2 u2 z2 => ?_) rfl (congrArg some (oI_r x1)) (congrArg some (oI_r x2)) (congrArg some (oI_r x3)) (congrArg some (oI_r x4))⟩
  · obtain rfl : m' = m := by omega
    refine ⟨_, rfl, rfl, G2, X2, ⟨⟨fr_S M2 mi_13 (fr_S M1 mi_10 q1), fr_T M2 mi_14 (fr_T M1 mi_11 q2), fun j hj => ?_, fr_K M2 mi_15 (fr_K M1 mi_12 q4)⟩, ?_⟩, fun _ => rfl⟩
    · rw [cF_M M2 (ms_n j hj)]
      unfold bM
      rw [u2 j hj, k2]
      by_cases hjm : j = m'
      · subst hjm
        simp [u1]
      · rw [n1 j hj hjm]
        simp only [decide_eq_true_eq, Bool.or_eq_true, hjm, or_false]
        exact q3 j hj
    · rw [cF_M M2 (fr_n M2 mi_17), t1, t2]
  · exact absurd (k3.mp p1) p2
  · exfalso; omega
  · exact absurd (k3.mpr p2) p1
  · refine ⟨_, rfl, rfl, G2, X2, ⟨⟨fr_S M2 mi_13 (fr_S M1 mi_10 q1), fr_T M2 mi_14 (fr_T M1 mi_11 q2), fun j hj => ?_, fr_K M2 mi_15 (fr_K M1 mi_12 q4)⟩, ?_⟩, fun _ => rfl⟩
    · rw [cF_M M2 (ms_n j hj), u1 _ _ (by omega)]
      unfold bM
      rw [u2, k2]
      exact q3 j hj
    · rw [cF_M M2 (fr_n M2 mi_17), t1, t2]
  · exfalso; omega
  · exfalso
    have := u1 0 1
    omega
  · exfalso
    have := u1 0 1
    omega
  · refine ⟨_, rfl, rfl, G2, X2, ⟨⟨fr_S M2 mi_13 (fr_S M1 mi_10 q1), fr_T M2 mi_14 (fr_T M1 mi_11 q2), fun j hj => ?_, fr_K M2 mi_15 (fr_K M1 mi_12 q4)⟩, ?_⟩, fun _ => rfl⟩
    · rw [u2, u1]
      unfold bM
      rw [show g2.1 196 0 = g1.1 196 0 from Int32.toInt_inj.mp (u2 196 0), k2]
      exact q3 j hj
    · rw [u2, u2, u1, u1]
      exact hl
theorem mi_20 : kk_8.2.2.2.1 &&& mS = 0 := by decide +kernel
theorem mi_21 : kk_8.2.2.2.1 &&& mT = 0 := by decide +kernel
theorem mi_22 : kk_8.2.2.2.1 &&& mK = 0 := by decide +kernel
theorem mi_23 : kk_9.2.2.2.1 &&& mS = 0 := by decide +kernel
theorem mi_24 : kk_9.2.2.2.1 &&& mT = 0 := by decide +kernel
theorem mi_25 : kk_9.2.2.2.1 &&& mK = 0 := by decide +kernel
theorem mi_26 : kk_8.2.2.2.1 &&& 2 ^ (cn 196 + 17) = 0 := by decide +kernel
theorem mi_27 : kk_9.2.2.2.1 &&& 2 ^ (cn 0 + 1) = 0 := by decide +kernel
theorem mi_28 : kk_8.2.2.2.1 &&& 2 ^ (cn 196 + 0) = 0 := by decide +kernel
theorem mi_29 : kk_8.2.2.2.1 &&& 2 ^ (cn 0 + 1) = 0 := by decide +kernel
theorem mi_30 : kk_9.2.2.2.1 &&& 2 ^ (cn 196 + 17) = 0 := by decide +kernel
theorem mg_n : ∀ j, j < 32 → kk_9.2.2.2.1.testBit (cn (4 + 2 * j) + 2) = false := by decide +kernel
theorem pr_gone {g : pH} (hG : g_I eG g) (hx : xL g) (hR : R0 g) (x1 : Int32) : pr_ R0 120 194 [.inl x1] 0 true g := by
  unfold pr_
  obtain ⟨q1, q2, q3, q4⟩ := hR.1
  refine cgo_run (i := x1.toInt) (by decide) (by decide) hG hx q1 (i32_b _) (fun m hm e1 c1 g1 G1 X1 M1 u1 n1 => ?_) (fun z1 => ?_) rfl (congrArg some (oI_r x1))
  · have k2 : g1.1 196 0 = g.1 196 0 := (M1.1 196 0 (fr_n M1 mi_28)).1
    refine ⟨_, rfl, rfl, mgo_run (i := x1.toInt) (by decide) (by decide) G1 X1 (i32_b _) (fun m' hm' e2 c2 g2 G2 X2 M2 u2 => ?_) (fun z2 => ?_) rfl (congrArg some (oI_r x1))⟩
    · obtain rfl : m' = m := by omega
      refine ⟨_, rfl, rfl, G2, X2, ⟨⟨fr_S M2 mi_23 (fr_S M1 mi_20 q1), fr_T M2 mi_24 (fr_T M1 mi_21 q2), fun j hj => ?_, fr_K M2 mi_25 (fr_K M1 mi_22 q4)⟩, ?_⟩, fun _ => rfl⟩
      · rw [cF_M M2 (mg_n j hj)]
        unfold bM
        rw [u2 j hj, k2]
        by_cases hjm : j = m'
        · subst hjm
          simp [u1]
        · rw [n1 j hj hjm]
          simp only [decide_eq_true_eq, Bool.and_eq_true, Bool.not_eq_true', decide_eq_false_iff_not, hjm, not_false_eq_true, and_true]
          exact q3 j hj
      · rw [cF_M M2 (fr_n M2 mi_27), cF_M M1 (fr_n M1 mi_29), cF_M M2 (fr_n M2 mi_30), cF_M M1 (fr_n M1 mi_26)]
        exact hR.2
    · refine absurd ⟨m, hm, e1, ?_⟩ z2
      unfold bM
      rw [k2]
      exact (q3 m hm).mp c1
  · refine ⟨_, rfl, rfl, mgo_run (i := x1.toInt) (by decide) (by decide) hG hx (i32_b _) (fun m' hm' e2 c2 g2 G2 X2 M2 u2 => ?_) (fun z2 => ?_) rfl (congrArg some (oI_r x1))⟩
    · exact absurd ((to_iff hR.1).mpr ⟨m', hm', e2, c2⟩) z1
    · exact ⟨_, rfl, rfl, hG, hx, hR, fun _ => rfl⟩
theorem mi_31 : kk_57.2.2.2.1 &&& mS = 0 := by decide +kernel
theorem mi_32 : kk_57.2.2.2.1 &&& mT = 0 := by decide +kernel
theorem mi_33 : kk_58.2.2.2.1 &&& mS = 0 := by decide +kernel
theorem mi_34 : kk_58.2.2.2.1 &&& mT = 0 := by decide +kernel
theorem mi_35 : kk_57.2.2.2.1 &&& 2 ^ (cn 196 + 0) = 0 := by decide +kernel
theorem mi_36 : kk_58.2.2.2.1 &&& 2 ^ (cn 0 + 4) = 0 := by decide +kernel
theorem mi_37 : kk_58.2.2.2.1 &&& 2 ^ (cn 0 + 1) = 0 := by decide +kernel
theorem mi_38 : kk_57.2.2.2.1 &&& 2 ^ (cn 0 + 1) = 0 := by decide +kernel
theorem mi_39 : kk_58.2.2.2.1 &&& 2 ^ (cn 196 + 17) = 0 := by decide +kernel
theorem mi_40 : kk_57.2.2.2.1 &&& 2 ^ (cn 196 + 17) = 0 := by decide +kernel
theorem mk_n : ∀ j, j < 32 → kk_58.2.2.2.1.testBit (cn (4 + 2 * j) + 2) = false ∧ kk_58.2.2.2.1.testBit (cn (78 + 2 * j) + 2) = false ∧ kk_60.2.2.2.1.testBit (cn (4 + 2 * j) + 2) = false ∧ kk_60.2.2.2.1.testBit (cn (78 + 2 * j) + 2) = false := by decide +kernel
theorem bz_c {b : Int32} {j : Nat} {x : Int} (hx : 0 ≤ x ∧ x ≤ 1) (h : x = 1 ↔ b.toBitVec.getLsbD j = true) : x = bz b j := by
  unfold bz
  by_cases k : b.toBitVec.getLsbD j = true
  · rw [if_pos k]
    exact h.mpr k
  · rw [if_neg k]
    have : ¬ x = 1 := fun z => k (h.mp z)
    omega
theorem pr_keep {g : pH} (hG : g_I eG g) (hx : xL g) (hR : R0 g) : pr_ R0 126 209 [] 0 true g := by
  unfold pr_
  obtain ⟨q1, q2, q3, q4⟩ := hR.1
  refine ck_run (by decide) (by decide) hG hx q1 (fun g1 G1 X1 M1 t1 u1 n1 => ?_) rfl
  have k2 : g1.1 196 0 = g.1 196 0 := (M1.1 196 0 (fr_n M1 mi_35)).1
  refine ⟨_, rfl, rfl, mk_run (by decide) (by decide) G1 X1 (fun g2 G2 X2 M2 v2 t2 u2 => ?_) rfl⟩
  refine ⟨_, rfl, rfl, G2, X2, ⟨⟨fr_S M2 mi_33 (fr_S M1 mi_31 q1), fr_T M2 mi_34 (fr_T M1 mi_32 q2), fun j hj => ?_, fun j hj => ?_, ?_⟩, ?_⟩, fun _ => ?_⟩
  · rw [cF_M M2 (mk_n j hj).1, n1 j hj]
    unfold bM
    rw [v2, k2]
    exact q3 j hj
  · rw [cF_M M2 (mk_n j hj).2.1, u1 j hj, u2, k2]
    exact q3 j hj
  · rw [cF_M M2 (fr_n M2 mi_36), t1, t2]
  · rw [cF_M M2 (fr_n M2 mi_37), cF_M M1 (fr_n M1 mi_38), cF_M M2 (fr_n M2 mi_39), cF_M M1 (fr_n M1 mi_40)]
    exact hR.2
  · rw [k2]
    exact congrArg (fun z => (oI z : pv)) (ctl_e (fun j hj => bz_c (cs4_2 hj hG) (q3 j hj)))
theorem mi_41 : kk_59.2.2.2.1 &&& mS = 0 := by decide +kernel
theorem mi_42 : kk_59.2.2.2.1 &&& mT = 0 := by decide +kernel
theorem mi_43 : kk_60.2.2.2.1 &&& mS = 0 := by decide +kernel
theorem mi_44 : kk_60.2.2.2.1 &&& mT = 0 := by decide +kernel
theorem mi_45 : kk_59.2.2.2.1 &&& 2 ^ (cn 196 + 73) = 0 := by decide +kernel
theorem mi_46 : kk_59.2.2.2.1 &&& 2 ^ (cn 196 + 72) = 0 := by decide +kernel
theorem mi_47 : kk_60.2.2.2.1 &&& 2 ^ (cn 196 + 73) = 0 := by decide +kernel
theorem mi_48 : kk_60.2.2.2.1 &&& 2 ^ (cn 0 + 4) = 0 := by decide +kernel
theorem mi_49 : kk_60.2.2.2.1 &&& 2 ^ (cn 196 + 72) = 0 := by decide +kernel
theorem mi_50 : kk_60.2.2.2.1 &&& 2 ^ (cn 0 + 1) = 0 := by decide +kernel
theorem mi_51 : kk_59.2.2.2.1 &&& 2 ^ (cn 0 + 1) = 0 := by decide +kernel
theorem mi_52 : kk_60.2.2.2.1 &&& 2 ^ (cn 196 + 17) = 0 := by decide +kernel
theorem mi_53 : kk_59.2.2.2.1 &&& 2 ^ (cn 196 + 17) = 0 := by decide +kernel
theorem pr_undo {g : pH} (hG : g_I eG g) (hx : xL g) (hR : R0 g) : pr_ R0 160 270 [] 0 true g := by
  unfold pr_
  obtain ⟨q1, q2, q3, q4⟩ := hR.1
  have hz : cF g 0 4 = 0 ∨ cF g 0 4 = 1 := by
    have := cb_0_4 hG
    omega
  refine cu_run (by decide) (by decide) hG hx q1 (fun z1 g1 G1 X1 M1 n1 u1 => ?_) (fun z1 => ?_) rfl
  · have k2 : g1.1 196 73 = g.1 196 73 := (M1.1 196 73 (fr_n M1 mi_45)).1
    have k3 : cF g1 196 72 = cF g 196 72 := cF_M M1 (fr_n M1 mi_46)
    have k4 : cF g1 0 4 = cF g 0 4 := cF_M M1 Wun_4
    refine ⟨_, rfl, rfl, mu_run (by decide) (by decide) G1 X1 (fun z2 g2 G2 X2 M2 v2 => ?_) (fun z2 => ?_) rfl⟩
    · have k5 : g2.1 196 73 = g1.1 196 73 := (M2.1 196 73 (fr_n M2 mi_47)).1
      refine ⟨_, rfl, rfl, G2, X2, ⟨⟨fr_S M2 mi_43 (fr_S M1 mi_41 q1), fr_T M2 mi_44 (fr_T M1 mi_42 q2), fun j hj => ?_, fun j hj => ?_, ?_⟩, ?_⟩, fun _ => ?_⟩
      · rw [cF_M M2 (mk_n j hj).2.2.1, n1 j hj]
        unfold bM
        rw [v2, k2]
        exact q4.1 j hj
      · rw [cF_M M2 (mk_n j hj).2.2.2, u1 j hj, k5, k2]
        exact q4.1 j hj
      · rw [cF_M M2 (fr_n M2 mi_48), k4, cF_M M2 (fr_n M2 mi_49), k3]
        exact q4.2
      · rw [cF_M M2 (fr_n M2 mi_50), cF_M M1 (fr_n M1 mi_51), cF_M M2 (fr_n M2 mi_52), cF_M M1 (fr_n M1 mi_53)]
        exact hR.2
      · rw [show cF g 0 4 = 1 by omega]
    · exfalso
      have := q4.2
      omega
  · refine ⟨_, rfl, rfl, mu_run (by decide) (by decide) hG hx (fun z2 g2 G2 X2 M2 v2 => ?_) (fun z2 => ?_) rfl⟩
    · exfalso
      have := q4.2
      omega
    · exact ⟨_, rfl, rfl, hG, hx, hR, fun _ => by rw [z1]⟩
end
section
/-! the tie: answers of looker, lamps, seed, as pairs (printed by wip/e2/t11.py) -/
def kclk_1 : eK := (134, (1, [(0, 2, (0, 100000, [1])), (1, 0, ((-2147483648), (-1), [])), (2, 0, ((-2147483648), 2147483647, [])), (3, 0, ((-2147483648), 2147483647, []))], [], []), (0, []), 0, [(some (0, (0, 0, [])), [], [])])
theorem eclk_1 : ex_mid eG eKT eDX 4000 kclk_1 [] 0 = true := by decide +kernel
def kclk_2 : eK := (134, (1, [(0, 2, (0, 100000, [1])), (1, 0, (8, 2147483647, [])), (2, 0, ((-2147483648), 2147483647, [])), (3, 0, ((-2147483648), 2147483647, []))], [], []), (0, []), 0, [(some (0, (0, 0, [])), [], [])])
theorem eclk_2 : ex_mid eG eKT eDX 4000 kclk_2 [] 0 = true := by decide +kernel
def kclk_3 : eK := (134, (1, [(0, 2, (0, 100000, [1])), (1, 0, ((-2147483648), 2147483647, [])), (2, 0, ((-2147483648), (-1), [])), (3, 0, ((-2147483648), 2147483647, []))], [], []), (0, []), 0, [(some (0, (0, 0, [])), [], [])])
theorem eclk_3 : ex_mid eG eKT eDX 4000 kclk_3 [] 0 = true := by decide +kernel
def kclk_4 : eK := (134, (1, [(0, 2, (0, 100000, [1])), (1, 0, ((-2147483648), 2147483647, [])), (2, 0, (10, 2147483647, [])), (3, 0, ((-2147483648), 2147483647, []))], [], []), (0, []), 0, [(some (0, (0, 0, [])), [], [])])
theorem eclk_4 : ex_mid eG eKT eDX 4000 kclk_4 [] 0 = true := by decide +kernel
def kclk_5 : eK := (134, (1, [(0, 2, (0, 100000, [1])), (1, 0, ((-2147483648), 2147483647, [])), (2, 0, ((-2147483648), 2147483647, [])), (3, 0, ((-2147483648), (-1), []))], [], []), (0, []), 0, [(some (0, (0, 0, [])), [], [])])
theorem eclk_5 : ex_mid eG eKT eDX 4000 kclk_5 [] 0 = true := by decide +kernel
def kclk_6 : eK := (134, (1, [(0, 2, (0, 100000, [1])), (1, 0, ((-2147483648), 2147483647, [])), (2, 0, ((-2147483648), 2147483647, [])), (3, 0, (10000, 2147483647, []))], [], []), (0, []), 0, [(some (0, (0, 0, [])), [], [])])
theorem eclk_6 : ex_mid eG eKT eDX 4000 kclk_6 [] 0 = true := by decide +kernel
def kclk_a : eK := (134, (1, [(0, 2, (0, 100000, [1])), (1, 0, (0, 7, [])), (2, 0, (0, 9, [])), (3, 0, (0, 9999, []))], [], []), (0, []), 230871130056998901634447500586778987139139097287883476570009531665502276004866468426255466337216302582851335913472, [(some (0, (1, 1, [])), [], [])])
theorem eclk_a : ex_mid eG eKT eDX 4000 kclk_a [] 0 = true := by decide +kernel
def kmlk_1 : eK := (221, (1, [(0, 2, (0, 100000, [197])), (1, 0, ((-2147483648), (-1), [])), (2, 0, ((-2147483648), 2147483647, [])), (3, 0, ((-2147483648), 2147483647, []))], [], []), (0, []), 0, [(some (0, (0, 0, [])), [], [])])
theorem emlk_1 : ex_mid eG eKT eDX 4000 kmlk_1 [] 0 = true := by decide +kernel
def kmlk_2 : eK := (221, (1, [(0, 2, (0, 100000, [197])), (1, 0, (8, 2147483647, [])), (2, 0, ((-2147483648), 2147483647, [])), (3, 0, ((-2147483648), 2147483647, []))], [], []), (0, []), 0, [(some (0, (0, 0, [])), [], [])])
theorem emlk_2 : ex_mid eG eKT eDX 4000 kmlk_2 [] 0 = true := by decide +kernel
def kmlk_3 : eK := (221, (1, [(0, 2, (0, 100000, [197])), (1, 0, ((-2147483648), 2147483647, [])), (2, 0, ((-2147483648), (-1), [])), (3, 0, ((-2147483648), 2147483647, []))], [], []), (0, []), 0, [(some (0, (0, 0, [])), [], [])])
theorem emlk_3 : ex_mid eG eKT eDX 4000 kmlk_3 [] 0 = true := by decide +kernel
def kmlk_4 : eK := (221, (1, [(0, 2, (0, 100000, [197])), (1, 0, ((-2147483648), 2147483647, [])), (2, 0, (10, 2147483647, [])), (3, 0, ((-2147483648), 2147483647, []))], [], []), (0, []), 0, [(some (0, (0, 0, [])), [], [])])
theorem emlk_4 : ex_mid eG eKT eDX 4000 kmlk_4 [] 0 = true := by decide +kernel
def kmlk_5 : eK := (221, (1, [(0, 2, (0, 100000, [197])), (1, 0, ((-2147483648), 2147483647, [])), (2, 0, ((-2147483648), 2147483647, [])), (3, 0, ((-2147483648), (-1), []))], [], []), (0, []), 0, [(some (0, (0, 0, [])), [], [])])
theorem emlk_5 : ex_mid eG eKT eDX 4000 kmlk_5 [] 0 = true := by decide +kernel
def kmlk_6 : eK := (221, (1, [(0, 2, (0, 100000, [197])), (1, 0, ((-2147483648), 2147483647, [])), (2, 0, ((-2147483648), 2147483647, [])), (3, 0, (10000, 2147483647, []))], [], []), (0, []), 0, [(some (0, (0, 0, [])), [], [])])
theorem emlk_6 : ex_mid eG eKT eDX 4000 kmlk_6 [] 0 = true := by decide +kernel
def kmlk_a : eK := (221, (1, [(0, 2, (0, 100000, [197])), (1, 0, (0, 7, [])), (2, 0, (0, 9, [])), (3, 0, (0, 9999, []))], [], []), (0, []), 7484401160755199293711397673951122238483187965419703673848362675320399311529141360457396890849930416312274363724863165935989198920513203261536867964939094698584889601810129571993893216961111735515611513879506374243897423525653944799327468569659390307404657137427685250330253544012204956712960, [(some (0, (1, 1, [])), [], [])])
theorem emlk_a : ex_mid eG eKT eDX 4000 kmlk_a [] 0 = true := by decide +kernel
def kcla_1 : eK := (128, (1, [(0, 2, (0, 100000, [1])), (1, 0, ((-2147483648), (-1), []))], [], []), (0, []), 0, [(some (0, (0, 0, [])), [], [])])
theorem ecla_1 : ex_mid eG eKT eDX 4000 kcla_1 [] 0 = true := by decide +kernel
def kcla_2 : eK := (128, (1, [(0, 2, (0, 100000, [1])), (1, 0, (10, 2147483647, []))], [], []), (0, []), 0, [(some (0, (0, 0, [])), [], [])])
theorem ecla_2 : ex_mid eG eKT eDX 4000 kcla_2 [] 0 = true := by decide +kernel
def kcla_a : eK := (128, (1, [(0, 2, (0, 100000, [1])), (1, 0, (0, 9, []))], [], []), (0, []), 262144, [(some (0, (1, 1, [])), [], [])])
theorem ecla_a : ex_mid eG eKT eDX 4000 kcla_a [] 0 = true := by decide +kernel
def kmla_1 : eK := (211, (1, [(0, 2, (0, 100000, [197])), (1, 0, ((-2147483648), (-1), []))], [], []), (0, []), 0, [(some (0, (0, 0, [])), [], [])])
theorem emla_1 : ex_mid eG eKT eDX 4000 kmla_1 [] 0 = true := by decide +kernel
def kmla_2 : eK := (211, (1, [(0, 2, (0, 100000, [197])), (1, 0, (10, 2147483647, []))], [], []), (0, []), 0, [(some (0, (0, 0, [])), [], [])])
theorem emla_2 : ex_mid eG eKT eDX 4000 kmla_2 [] 0 = true := by decide +kernel
def kmla_a : eK := (211, (1, [(0, 2, (0, 100000, [197])), (1, 0, (0, 9, []))], [], []), (0, []), 38981256045599996321413529551500753243504907430380030107471625828851794763065704409862460263528041036901219664925634672733836679460812376186311949185250613678125110799825892119483158621960214593411198373916873515494742391701579499782985454461875862451310955212417110188327314359967656443904, [(some (0, (1, 1, [])), [], [])])
theorem emla_a : ex_mid eG eKT eDX 4000 kmla_a [] 0 = true := by decide +kernel
def kcse_1 : eK := (144, (1, [(0, 2, (0, 100000, [1])), (1, 0, ((-2147483648), (-1), []))], [], []), (0, []), 0, [(some (0, (0, 0, [])), [], [])])
theorem ecse_1 : ex_mid eG eKT eDX 4000 kcse_1 [] 0 = true := by decide +kernel
def kcse_2 : eK := (144, (1, [(0, 2, (0, 100000, [1])), (1, 0, (65536, 2147483647, []))], [], []), (0, []), 0, [(some (0, (0, 0, [])), [], [])])
theorem ecse_2 : ex_mid eG eKT eDX 4000 kcse_2 [] 0 = true := by decide +kernel
def kcse_a : eK := (144, (1, [(0, 2, (0, 100000, [1])), (1, 0, (0, 65535, []))], [], []), (0, []), 2097152, [(some (0, (1, 1, [])), [], [])])
theorem ecse_a : ex_mid eG eKT eDX 4000 kcse_a [] 0 = true := by decide +kernel
def kmse_1 : eK := (245, (1, [(0, 2, (0, 100000, [197])), (1, 0, ((-2147483648), (-1), []))], [], []), (0, []), 0, [(some (0, (0, 0, [])), [], [])])
theorem emse_1 : ex_mid eG eKT eDX 4000 kmse_1 [] 0 = true := by decide +kernel
def kmse_2 : eK := (245, (1, [(0, 2, (0, 100000, [197])), (1, 0, (65536, 2147483647, []))], [], []), (0, []), 0, [(some (0, (0, 0, [])), [], [])])
theorem emse_2 : ex_mid eG eKT eDX 4000 kmse_2 [] 0 = true := by decide +kernel
def kmse_a : eK := (245, (1, [(0, 2, (0, 100000, [197])), (1, 0, (0, 65535, []))], [], []), (0, []), 38981256045599996321413529551500753243504907430380030107471625828851794763065704409862460263528041036901219664925634672733836679460812376186311949185250613678125110799825892119483158621960214593411198373916873515494742391701579499782985454461875862451310955212417110188327314359967656443904, [(some (0, (1, 1, [])), [], [])])
theorem emse_a : ex_mid eG eKT eDX 4000 kmse_a [] 0 = true := by decide +kernel
set_option maxHeartbeats 2000000 in
theorem clk_run {d : Nat} (hd : 1 ≤ d) (hd2 : d ≤ 1000000) {g : pH} (hG : g_I eG g) (hx : xL g) {i w n : Int} (hi : -2147483648 ≤ i ∧ i ≤ 2147483647) (hw : -2147483648 ≤ w ∧ w ≤ 2147483647) (hn : -2147483648 ≤ n ∧ n ≤ 2147483647) {P : Option pv × pH → Prop} (hA : ∀ (g1 : pH), g_I eG g1 → xL g1 → f_M kclk_a.2.2.2.1 g g1 → (0 ≤ i ∧ i ≤ 7) ∧ (0 ≤ w ∧ w ≤ 9) ∧ (0 ≤ n ∧ n ≤ 9999) → P (some (oI 1), g1)) (hR : ∀ (g1 : pH), g_I eG g1 → xL g1 → f_M kclk_a.2.2.2.1 g g1 → (∀ u v, cF g1 u v = cF g u v) → ¬ ((0 ≤ i ∧ i ≤ 7) ∧ (0 ≤ w ∧ w ≤ 9) ∧ (0 ≤ n ∧ n ≤ 9999)) → P (some (oI 0), g1)) {lv : List (Nat × pv)} (l0 : px_lg lv 0 = some (pvR 0)) (l1 : px_lg lv 1 = some (oI i)) (l2 : px_lg lv 2 = some (oI w)) (l3 : px_lg lv 3 = some (oI n)) : t_X d 134 0 lv [] g P := by
  have hJ : J_ 0 g g := J_rf hG
  have hb := cb_0_1 hG
  by_cases a0 : i < 0
  · refine mid_L (k := kclk_1) eclk_1 hG hx (xs := [cv (pvR 0), cv (oI i), cv (oI w), cv (oI n)]) (ys := []) ⟨by show 1 ≤ _; omega, ⟨⟨pvR 0, l0, rfl, rfl, ok_0⟩, ⟨oI i, l1, rfl, rfl, ok_oI (by omega) (by decide) (by decide)⟩, ⟨oI w, l2, rfl, rfl, ok_full32 _⟩, ⟨oI n, l3, rfl, rfl, ok_full32 _⟩, trivial⟩, trivial, fun c hc => absurd hc List.not_mem_nil⟩ (by omega) (fun o G1 X1 M1 P1 => ?_)
    obtain ⟨o1, o2⟩ := o
    obtain ⟨rfl, -⟩ := po_c P1
    exact hR _ G1 X1 (f_M_0 M1) (fun u v => cF_M0 M1 u v) (fun z => by omega)
  · skip
    by_cases a1 : 7 < i
    · refine mid_L (k := kclk_2) eclk_2 hG hx (xs := [cv (pvR 0), cv (oI i), cv (oI w), cv (oI n)]) (ys := []) ⟨by show 1 ≤ _; omega, ⟨⟨pvR 0, l0, rfl, rfl, ok_0⟩, ⟨oI i, l1, rfl, rfl, ok_oI (by omega) (by decide) (by decide)⟩, ⟨oI w, l2, rfl, rfl, ok_full32 _⟩, ⟨oI n, l3, rfl, rfl, ok_full32 _⟩, trivial⟩, trivial, fun c hc => absurd hc List.not_mem_nil⟩ (by omega) (fun o G1 X1 M1 P1 => ?_)
      obtain ⟨o1, o2⟩ := o
      obtain ⟨rfl, -⟩ := po_c P1
      exact hR _ G1 X1 (f_M_0 M1) (fun u v => cF_M0 M1 u v) (fun z => by omega)
    · skip
      by_cases a2 : w < 0
      · refine mid_L (k := kclk_3) eclk_3 hG hx (xs := [cv (pvR 0), cv (oI i), cv (oI w), cv (oI n)]) (ys := []) ⟨by show 1 ≤ _; omega, ⟨⟨pvR 0, l0, rfl, rfl, ok_0⟩, ⟨oI i, l1, rfl, rfl, ok_full32 _⟩, ⟨oI w, l2, rfl, rfl, ok_oI (by omega) (by decide) (by decide)⟩, ⟨oI n, l3, rfl, rfl, ok_full32 _⟩, trivial⟩, trivial, fun c hc => absurd hc List.not_mem_nil⟩ (by omega) (fun o G1 X1 M1 P1 => ?_)
        obtain ⟨o1, o2⟩ := o
        obtain ⟨rfl, -⟩ := po_c P1
        exact hR _ G1 X1 (f_M_0 M1) (fun u v => cF_M0 M1 u v) (fun z => by omega)
      · skip
        by_cases a3 : 9 < w
        · refine mid_L (k := kclk_4) eclk_4 hG hx (xs := [cv (pvR 0), cv (oI i), cv (oI w), cv (oI n)]) (ys := []) ⟨by show 1 ≤ _; omega, ⟨⟨pvR 0, l0, rfl, rfl, ok_0⟩, ⟨oI i, l1, rfl, rfl, ok_full32 _⟩, ⟨oI w, l2, rfl, rfl, ok_oI (by omega) (by decide) (by decide)⟩, ⟨oI n, l3, rfl, rfl, ok_full32 _⟩, trivial⟩, trivial, fun c hc => absurd hc List.not_mem_nil⟩ (by omega) (fun o G1 X1 M1 P1 => ?_)
          obtain ⟨o1, o2⟩ := o
          obtain ⟨rfl, -⟩ := po_c P1
          exact hR _ G1 X1 (f_M_0 M1) (fun u v => cF_M0 M1 u v) (fun z => by omega)
        · skip
          by_cases a4 : n < 0
          · refine mid_L (k := kclk_5) eclk_5 hG hx (xs := [cv (pvR 0), cv (oI i), cv (oI w), cv (oI n)]) (ys := []) ⟨by show 1 ≤ _; omega, ⟨⟨pvR 0, l0, rfl, rfl, ok_0⟩, ⟨oI i, l1, rfl, rfl, ok_full32 _⟩, ⟨oI w, l2, rfl, rfl, ok_full32 _⟩, ⟨oI n, l3, rfl, rfl, ok_oI (by omega) (by decide) (by decide)⟩, trivial⟩, trivial, fun c hc => absurd hc List.not_mem_nil⟩ (by omega) (fun o G1 X1 M1 P1 => ?_)
            obtain ⟨o1, o2⟩ := o
            obtain ⟨rfl, -⟩ := po_c P1
            exact hR _ G1 X1 (f_M_0 M1) (fun u v => cF_M0 M1 u v) (fun z => by omega)
          · skip
            by_cases a5 : 9999 < n
            · refine mid_L (k := kclk_6) eclk_6 hG hx (xs := [cv (pvR 0), cv (oI i), cv (oI w), cv (oI n)]) (ys := []) ⟨by show 1 ≤ _; omega, ⟨⟨pvR 0, l0, rfl, rfl, ok_0⟩, ⟨oI i, l1, rfl, rfl, ok_full32 _⟩, ⟨oI w, l2, rfl, rfl, ok_full32 _⟩, ⟨oI n, l3, rfl, rfl, ok_oI (by omega) (by decide) (by decide)⟩, trivial⟩, trivial, fun c hc => absurd hc List.not_mem_nil⟩ (by omega) (fun o G1 X1 M1 P1 => ?_)
              obtain ⟨o1, o2⟩ := o
              obtain ⟨rfl, -⟩ := po_c P1
              exact hR _ G1 X1 (f_M_0 M1) (fun u v => cF_M0 M1 u v) (fun z => by omega)
            · skip
              refine mid_L (k := kclk_a) eclk_a hG hx (xs := [cv (pvR 0), cv (oI i), cv (oI w), cv (oI n)]) (ys := []) ⟨by show 1 ≤ _; omega, ⟨⟨pvR 0, l0, rfl, rfl, ok_0⟩, ⟨oI i, l1, rfl, rfl, ok_oI (by omega) (by decide) (by decide)⟩, ⟨oI w, l2, rfl, rfl, ok_oI (by omega) (by decide) (by decide)⟩, ⟨oI n, l3, rfl, rfl, ok_oI (by omega) (by decide) (by decide)⟩, trivial⟩, trivial, fun c hc => absurd hc List.not_mem_nil⟩ (by omega) (fun o G1 X1 M1 P1 => ?_)
              obtain ⟨o1, o2⟩ := o
              obtain ⟨rfl, ys, hF⟩ := po_c P1
              exact hA _ G1 X1 M1 (by omega)
set_option maxHeartbeats 2000000 in
theorem mlk_run {d : Nat} (hd : 1 ≤ d) (hd2 : d ≤ 1000000) {g : pH} (hG : g_I eG g) (hx : xL g) {i w n : Int} (hi : -2147483648 ≤ i ∧ i ≤ 2147483647) (hw : -2147483648 ≤ w ∧ w ≤ 2147483647) (hn : -2147483648 ≤ n ∧ n ≤ 2147483647) {P : Option pv × pH → Prop} (hA : ∀ (g1 : pH), g_I eG g1 → xL g1 → f_M kmlk_a.2.2.2.1 g g1 → (0 ≤ i ∧ i ≤ 7) ∧ (0 ≤ w ∧ w ≤ 9) ∧ (0 ≤ n ∧ n ≤ 9999) → P (some (oI 1), g1)) (hR : ∀ (g1 : pH), g_I eG g1 → xL g1 → f_M kmlk_a.2.2.2.1 g g1 → (∀ u v, cF g1 u v = cF g u v) → ¬ ((0 ≤ i ∧ i ≤ 7) ∧ (0 ≤ w ∧ w ≤ 9) ∧ (0 ≤ n ∧ n ≤ 9999)) → P (some (oI 0), g1)) {lv : List (Nat × pv)} (l0 : px_lg lv 0 = some (pvR 196)) (l1 : px_lg lv 1 = some (oI i)) (l2 : px_lg lv 2 = some (oI w)) (l3 : px_lg lv 3 = some (oI n)) : t_X d 221 0 lv [] g P := by
  have hJ : J_ 0 g g := J_rf hG
  have hb := cb_m17 hG
  by_cases a0 : i < 0
  · refine mid_L (k := kmlk_1) emlk_1 hG hx (xs := [cv (pvR 196), cv (oI i), cv (oI w), cv (oI n)]) (ys := []) ⟨by show 1 ≤ _; omega, ⟨⟨pvR 196, l0, rfl, rfl, ok_this⟩, ⟨oI i, l1, rfl, rfl, ok_oI (by omega) (by decide) (by decide)⟩, ⟨oI w, l2, rfl, rfl, ok_full32 _⟩, ⟨oI n, l3, rfl, rfl, ok_full32 _⟩, trivial⟩, trivial, fun c hc => absurd hc List.not_mem_nil⟩ (by omega) (fun o G1 X1 M1 P1 => ?_)
    obtain ⟨o1, o2⟩ := o
    obtain ⟨rfl, -⟩ := po_c P1
    exact hR _ G1 X1 (f_M_0 M1) (fun u v => cF_M0 M1 u v) (fun z => by omega)
  · skip
    by_cases a1 : 7 < i
    · refine mid_L (k := kmlk_2) emlk_2 hG hx (xs := [cv (pvR 196), cv (oI i), cv (oI w), cv (oI n)]) (ys := []) ⟨by show 1 ≤ _; omega, ⟨⟨pvR 196, l0, rfl, rfl, ok_this⟩, ⟨oI i, l1, rfl, rfl, ok_oI (by omega) (by decide) (by decide)⟩, ⟨oI w, l2, rfl, rfl, ok_full32 _⟩, ⟨oI n, l3, rfl, rfl, ok_full32 _⟩, trivial⟩, trivial, fun c hc => absurd hc List.not_mem_nil⟩ (by omega) (fun o G1 X1 M1 P1 => ?_)
      obtain ⟨o1, o2⟩ := o
      obtain ⟨rfl, -⟩ := po_c P1
      exact hR _ G1 X1 (f_M_0 M1) (fun u v => cF_M0 M1 u v) (fun z => by omega)
    · skip
      by_cases a2 : w < 0
      · refine mid_L (k := kmlk_3) emlk_3 hG hx (xs := [cv (pvR 196), cv (oI i), cv (oI w), cv (oI n)]) (ys := []) ⟨by show 1 ≤ _; omega, ⟨⟨pvR 196, l0, rfl, rfl, ok_this⟩, ⟨oI i, l1, rfl, rfl, ok_full32 _⟩, ⟨oI w, l2, rfl, rfl, ok_oI (by omega) (by decide) (by decide)⟩, ⟨oI n, l3, rfl, rfl, ok_full32 _⟩, trivial⟩, trivial, fun c hc => absurd hc List.not_mem_nil⟩ (by omega) (fun o G1 X1 M1 P1 => ?_)
        obtain ⟨o1, o2⟩ := o
        obtain ⟨rfl, -⟩ := po_c P1
        exact hR _ G1 X1 (f_M_0 M1) (fun u v => cF_M0 M1 u v) (fun z => by omega)
      · skip
        by_cases a3 : 9 < w
        · refine mid_L (k := kmlk_4) emlk_4 hG hx (xs := [cv (pvR 196), cv (oI i), cv (oI w), cv (oI n)]) (ys := []) ⟨by show 1 ≤ _; omega, ⟨⟨pvR 196, l0, rfl, rfl, ok_this⟩, ⟨oI i, l1, rfl, rfl, ok_full32 _⟩, ⟨oI w, l2, rfl, rfl, ok_oI (by omega) (by decide) (by decide)⟩, ⟨oI n, l3, rfl, rfl, ok_full32 _⟩, trivial⟩, trivial, fun c hc => absurd hc List.not_mem_nil⟩ (by omega) (fun o G1 X1 M1 P1 => ?_)
          obtain ⟨o1, o2⟩ := o
          obtain ⟨rfl, -⟩ := po_c P1
          exact hR _ G1 X1 (f_M_0 M1) (fun u v => cF_M0 M1 u v) (fun z => by omega)
        · skip
          by_cases a4 : n < 0
          · refine mid_L (k := kmlk_5) emlk_5 hG hx (xs := [cv (pvR 196), cv (oI i), cv (oI w), cv (oI n)]) (ys := []) ⟨by show 1 ≤ _; omega, ⟨⟨pvR 196, l0, rfl, rfl, ok_this⟩, ⟨oI i, l1, rfl, rfl, ok_full32 _⟩, ⟨oI w, l2, rfl, rfl, ok_full32 _⟩, ⟨oI n, l3, rfl, rfl, ok_oI (by omega) (by decide) (by decide)⟩, trivial⟩, trivial, fun c hc => absurd hc List.not_mem_nil⟩ (by omega) (fun o G1 X1 M1 P1 => ?_)
            obtain ⟨o1, o2⟩ := o
            obtain ⟨rfl, -⟩ := po_c P1
            exact hR _ G1 X1 (f_M_0 M1) (fun u v => cF_M0 M1 u v) (fun z => by omega)
          · skip
            by_cases a5 : 9999 < n
            · refine mid_L (k := kmlk_6) emlk_6 hG hx (xs := [cv (pvR 196), cv (oI i), cv (oI w), cv (oI n)]) (ys := []) ⟨by show 1 ≤ _; omega, ⟨⟨pvR 196, l0, rfl, rfl, ok_this⟩, ⟨oI i, l1, rfl, rfl, ok_full32 _⟩, ⟨oI w, l2, rfl, rfl, ok_full32 _⟩, ⟨oI n, l3, rfl, rfl, ok_oI (by omega) (by decide) (by decide)⟩, trivial⟩, trivial, fun c hc => absurd hc List.not_mem_nil⟩ (by omega) (fun o G1 X1 M1 P1 => ?_)
              obtain ⟨o1, o2⟩ := o
              obtain ⟨rfl, -⟩ := po_c P1
              exact hR _ G1 X1 (f_M_0 M1) (fun u v => cF_M0 M1 u v) (fun z => by omega)
            · skip
              refine mid_L (k := kmlk_a) emlk_a hG hx (xs := [cv (pvR 196), cv (oI i), cv (oI w), cv (oI n)]) (ys := []) ⟨by show 1 ≤ _; omega, ⟨⟨pvR 196, l0, rfl, rfl, ok_this⟩, ⟨oI i, l1, rfl, rfl, ok_oI (by omega) (by decide) (by decide)⟩, ⟨oI w, l2, rfl, rfl, ok_oI (by omega) (by decide) (by decide)⟩, ⟨oI n, l3, rfl, rfl, ok_oI (by omega) (by decide) (by decide)⟩, trivial⟩, trivial, fun c hc => absurd hc List.not_mem_nil⟩ (by omega) (fun o G1 X1 M1 P1 => ?_)
              obtain ⟨o1, o2⟩ := o
              obtain ⟨rfl, ys, hF⟩ := po_c P1
              exact hA _ G1 X1 M1 (by omega)
set_option maxHeartbeats 2000000 in
theorem cla_run {d : Nat} (hd : 1 ≤ d) (hd2 : d ≤ 1000000) {g : pH} (hG : g_I eG g) (hx : xL g) {i : Int} (hi : -2147483648 ≤ i ∧ i ≤ 2147483647) {P : Option pv × pH → Prop} (hA : ∀ (g1 : pH), g_I eG g1 → xL g1 → f_M kcla_a.2.2.2.1 g g1 → (0 ≤ i ∧ i ≤ 9) → P (some (oI 1), g1)) (hR : ∀ (g1 : pH), g_I eG g1 → xL g1 → f_M kcla_a.2.2.2.1 g g1 → (∀ u v, cF g1 u v = cF g u v) → ¬ ((0 ≤ i ∧ i ≤ 9)) → P (some (oI 0), g1)) {lv : List (Nat × pv)} (l0 : px_lg lv 0 = some (pvR 0)) (l1 : px_lg lv 1 = some (oI i)) : t_X d 128 0 lv [] g P := by
  have hJ : J_ 0 g g := J_rf hG
  have hb := cb_0_1 hG
  by_cases a0 : i < 0
  · refine mid_L (k := kcla_1) ecla_1 hG hx (xs := [cv (pvR 0), cv (oI i)]) (ys := []) ⟨by show 1 ≤ _; omega, ⟨⟨pvR 0, l0, rfl, rfl, ok_0⟩, ⟨oI i, l1, rfl, rfl, ok_oI (by omega) (by decide) (by decide)⟩, trivial⟩, trivial, fun c hc => absurd hc List.not_mem_nil⟩ (by omega) (fun o G1 X1 M1 P1 => ?_)
    obtain ⟨o1, o2⟩ := o
    obtain ⟨rfl, -⟩ := po_c P1
    exact hR _ G1 X1 (f_M_0 M1) (fun u v => cF_M0 M1 u v) (fun z => by omega)
  · skip
    by_cases a1 : 9 < i
    · refine mid_L (k := kcla_2) ecla_2 hG hx (xs := [cv (pvR 0), cv (oI i)]) (ys := []) ⟨by show 1 ≤ _; omega, ⟨⟨pvR 0, l0, rfl, rfl, ok_0⟩, ⟨oI i, l1, rfl, rfl, ok_oI (by omega) (by decide) (by decide)⟩, trivial⟩, trivial, fun c hc => absurd hc List.not_mem_nil⟩ (by omega) (fun o G1 X1 M1 P1 => ?_)
      obtain ⟨o1, o2⟩ := o
      obtain ⟨rfl, -⟩ := po_c P1
      exact hR _ G1 X1 (f_M_0 M1) (fun u v => cF_M0 M1 u v) (fun z => by omega)
    · skip
      refine mid_L (k := kcla_a) ecla_a hG hx (xs := [cv (pvR 0), cv (oI i)]) (ys := []) ⟨by show 1 ≤ _; omega, ⟨⟨pvR 0, l0, rfl, rfl, ok_0⟩, ⟨oI i, l1, rfl, rfl, ok_oI (by omega) (by decide) (by decide)⟩, trivial⟩, trivial, fun c hc => absurd hc List.not_mem_nil⟩ (by omega) (fun o G1 X1 M1 P1 => ?_)
      obtain ⟨o1, o2⟩ := o
      obtain ⟨rfl, ys, hF⟩ := po_c P1
      exact hA _ G1 X1 M1 (by omega)
set_option maxHeartbeats 2000000 in
theorem mla_run {d : Nat} (hd : 1 ≤ d) (hd2 : d ≤ 1000000) {g : pH} (hG : g_I eG g) (hx : xL g) {i : Int} (hi : -2147483648 ≤ i ∧ i ≤ 2147483647) {P : Option pv × pH → Prop} (hA : ∀ (g1 : pH), g_I eG g1 → xL g1 → f_M kmla_a.2.2.2.1 g g1 → (0 ≤ i ∧ i ≤ 9) → P (some (oI 1), g1)) (hR : ∀ (g1 : pH), g_I eG g1 → xL g1 → f_M kmla_a.2.2.2.1 g g1 → (∀ u v, cF g1 u v = cF g u v) → ¬ ((0 ≤ i ∧ i ≤ 9)) → P (some (oI 0), g1)) {lv : List (Nat × pv)} (l0 : px_lg lv 0 = some (pvR 196)) (l1 : px_lg lv 1 = some (oI i)) : t_X d 211 0 lv [] g P := by
  have hJ : J_ 0 g g := J_rf hG
  have hb := cb_m17 hG
  by_cases a0 : i < 0
  · refine mid_L (k := kmla_1) emla_1 hG hx (xs := [cv (pvR 196), cv (oI i)]) (ys := []) ⟨by show 1 ≤ _; omega, ⟨⟨pvR 196, l0, rfl, rfl, ok_this⟩, ⟨oI i, l1, rfl, rfl, ok_oI (by omega) (by decide) (by decide)⟩, trivial⟩, trivial, fun c hc => absurd hc List.not_mem_nil⟩ (by omega) (fun o G1 X1 M1 P1 => ?_)
    obtain ⟨o1, o2⟩ := o
    obtain ⟨rfl, -⟩ := po_c P1
    exact hR _ G1 X1 (f_M_0 M1) (fun u v => cF_M0 M1 u v) (fun z => by omega)
  · skip
    by_cases a1 : 9 < i
    · refine mid_L (k := kmla_2) emla_2 hG hx (xs := [cv (pvR 196), cv (oI i)]) (ys := []) ⟨by show 1 ≤ _; omega, ⟨⟨pvR 196, l0, rfl, rfl, ok_this⟩, ⟨oI i, l1, rfl, rfl, ok_oI (by omega) (by decide) (by decide)⟩, trivial⟩, trivial, fun c hc => absurd hc List.not_mem_nil⟩ (by omega) (fun o G1 X1 M1 P1 => ?_)
      obtain ⟨o1, o2⟩ := o
      obtain ⟨rfl, -⟩ := po_c P1
      exact hR _ G1 X1 (f_M_0 M1) (fun u v => cF_M0 M1 u v) (fun z => by omega)
    · skip
      refine mid_L (k := kmla_a) emla_a hG hx (xs := [cv (pvR 196), cv (oI i)]) (ys := []) ⟨by show 1 ≤ _; omega, ⟨⟨pvR 196, l0, rfl, rfl, ok_this⟩, ⟨oI i, l1, rfl, rfl, ok_oI (by omega) (by decide) (by decide)⟩, trivial⟩, trivial, fun c hc => absurd hc List.not_mem_nil⟩ (by omega) (fun o G1 X1 M1 P1 => ?_)
      obtain ⟨o1, o2⟩ := o
      obtain ⟨rfl, ys, hF⟩ := po_c P1
      exact hA _ G1 X1 M1 (by omega)
set_option maxHeartbeats 2000000 in
theorem cse_run {d : Nat} (hd : 1 ≤ d) (hd2 : d ≤ 1000000) {g : pH} (hG : g_I eG g) (hx : xL g) {i : Int} (hi : -2147483648 ≤ i ∧ i ≤ 2147483647) {P : Option pv × pH → Prop} (hA : ∀ (g1 : pH), g_I eG g1 → xL g1 → f_M kcse_a.2.2.2.1 g g1 → (0 ≤ i ∧ i ≤ 65535) → P (some (oI 1), g1)) (hR : ∀ (g1 : pH), g_I eG g1 → xL g1 → f_M kcse_a.2.2.2.1 g g1 → (∀ u v, cF g1 u v = cF g u v) → ¬ ((0 ≤ i ∧ i ≤ 65535)) → P (some (oI 0), g1)) {lv : List (Nat × pv)} (l0 : px_lg lv 0 = some (pvR 0)) (l1 : px_lg lv 1 = some (oI i)) : t_X d 144 0 lv [] g P := by
  have hJ : J_ 0 g g := J_rf hG
  have hb := cb_0_1 hG
  by_cases a0 : i < 0
  · refine mid_L (k := kcse_1) ecse_1 hG hx (xs := [cv (pvR 0), cv (oI i)]) (ys := []) ⟨by show 1 ≤ _; omega, ⟨⟨pvR 0, l0, rfl, rfl, ok_0⟩, ⟨oI i, l1, rfl, rfl, ok_oI (by omega) (by decide) (by decide)⟩, trivial⟩, trivial, fun c hc => absurd hc List.not_mem_nil⟩ (by omega) (fun o G1 X1 M1 P1 => ?_)
    obtain ⟨o1, o2⟩ := o
    obtain ⟨rfl, -⟩ := po_c P1
    exact hR _ G1 X1 (f_M_0 M1) (fun u v => cF_M0 M1 u v) (fun z => by omega)
  · skip
    by_cases a1 : 65535 < i
    · refine mid_L (k := kcse_2) ecse_2 hG hx (xs := [cv (pvR 0), cv (oI i)]) (ys := []) ⟨by show 1 ≤ _; omega, ⟨⟨pvR 0, l0, rfl, rfl, ok_0⟩, ⟨oI i, l1, rfl, rfl, ok_oI (by omega) (by decide) (by decide)⟩, trivial⟩, trivial, fun c hc => absurd hc List.not_mem_nil⟩ (by omega) (fun o G1 X1 M1 P1 => ?_)
      obtain ⟨o1, o2⟩ := o
      obtain ⟨rfl, -⟩ := po_c P1
      exact hR _ G1 X1 (f_M_0 M1) (fun u v => cF_M0 M1 u v) (fun z => by omega)
    · skip
      refine mid_L (k := kcse_a) ecse_a hG hx (xs := [cv (pvR 0), cv (oI i)]) (ys := []) ⟨by show 1 ≤ _; omega, ⟨⟨pvR 0, l0, rfl, rfl, ok_0⟩, ⟨oI i, l1, rfl, rfl, ok_oI (by omega) (by decide) (by decide)⟩, trivial⟩, trivial, fun c hc => absurd hc List.not_mem_nil⟩ (by omega) (fun o G1 X1 M1 P1 => ?_)
      obtain ⟨o1, o2⟩ := o
      obtain ⟨rfl, ys, hF⟩ := po_c P1
      exact hA _ G1 X1 M1 (by omega)
set_option maxHeartbeats 2000000 in
theorem mse_run {d : Nat} (hd : 1 ≤ d) (hd2 : d ≤ 1000000) {g : pH} (hG : g_I eG g) (hx : xL g) {i : Int} (hi : -2147483648 ≤ i ∧ i ≤ 2147483647) {P : Option pv × pH → Prop} (hA : ∀ (g1 : pH), g_I eG g1 → xL g1 → f_M kmse_a.2.2.2.1 g g1 → (0 ≤ i ∧ i ≤ 65535) → P (some (oI 1), g1)) (hR : ∀ (g1 : pH), g_I eG g1 → xL g1 → f_M kmse_a.2.2.2.1 g g1 → (∀ u v, cF g1 u v = cF g u v) → ¬ ((0 ≤ i ∧ i ≤ 65535)) → P (some (oI 0), g1)) {lv : List (Nat × pv)} (l0 : px_lg lv 0 = some (pvR 196)) (l1 : px_lg lv 1 = some (oI i)) : t_X d 245 0 lv [] g P := by
  have hJ : J_ 0 g g := J_rf hG
  have hb := cb_m17 hG
  by_cases a0 : i < 0
  · refine mid_L (k := kmse_1) emse_1 hG hx (xs := [cv (pvR 196), cv (oI i)]) (ys := []) ⟨by show 1 ≤ _; omega, ⟨⟨pvR 196, l0, rfl, rfl, ok_this⟩, ⟨oI i, l1, rfl, rfl, ok_oI (by omega) (by decide) (by decide)⟩, trivial⟩, trivial, fun c hc => absurd hc List.not_mem_nil⟩ (by omega) (fun o G1 X1 M1 P1 => ?_)
    obtain ⟨o1, o2⟩ := o
    obtain ⟨rfl, -⟩ := po_c P1
    exact hR _ G1 X1 (f_M_0 M1) (fun u v => cF_M0 M1 u v) (fun z => by omega)
  · skip
    by_cases a1 : 65535 < i
    · refine mid_L (k := kmse_2) emse_2 hG hx (xs := [cv (pvR 196), cv (oI i)]) (ys := []) ⟨by show 1 ≤ _; omega, ⟨⟨pvR 196, l0, rfl, rfl, ok_this⟩, ⟨oI i, l1, rfl, rfl, ok_oI (by omega) (by decide) (by decide)⟩, trivial⟩, trivial, fun c hc => absurd hc List.not_mem_nil⟩ (by omega) (fun o G1 X1 M1 P1 => ?_)
      obtain ⟨o1, o2⟩ := o
      obtain ⟨rfl, -⟩ := po_c P1
      exact hR _ G1 X1 (f_M_0 M1) (fun u v => cF_M0 M1 u v) (fun z => by omega)
    · skip
      refine mid_L (k := kmse_a) emse_a hG hx (xs := [cv (pvR 196), cv (oI i)]) (ys := []) ⟨by show 1 ≤ _; omega, ⟨⟨pvR 196, l0, rfl, rfl, ok_this⟩, ⟨oI i, l1, rfl, rfl, ok_oI (by omega) (by decide) (by decide)⟩, trivial⟩, trivial, fun c hc => absurd hc List.not_mem_nil⟩ (by omega) (fun o G1 X1 M1 P1 => ?_)
      obtain ⟨o1, o2⟩ := o
      obtain ⟨rfl, ys, hF⟩ := po_c P1
      exact hA _ G1 X1 M1 (by omega)
theorem mh_0 : kclk_a.2.2.2.1 &&& mR0 = 0 := by decide +kernel
theorem mh_1 : kmlk_a.2.2.2.1 &&& mR0 = 0 := by decide +kernel
theorem pt_looker {g : pH} (hG : g_I eG g) (hx : xL g) (hR : R0 g) (x1 x2 x3 : Int32) : pr_ R0 134 221 [.inl x1, .inl x2, .inl x3] 0 true g := by
  unfold pr_
  refine clk_run (i := x1.toInt) (w := x2.toInt) (n := x3.toInt) (by decide) (by decide) hG hx (i32_b _) (i32_b _) (i32_b _) (fun g1 G1 X1 M1 z1 => ?_) (fun g1 G1 X1 M1 e1 z1 => ?_) rfl (congrArg some (oI_r x1)) (congrArg some (oI_r x2)) (congrArg some (oI_r x3))
  all_goals
    have Q1 := R0_f M1 mh_0 hR
    refine ⟨_, rfl, rfl, mlk_run (i := x1.toInt) (w := x2.toInt) (n := x3.toInt) (by decide) (by decide) G1 X1 (i32_b _) (i32_b _) (i32_b _) (fun g2 G2 X2 M2 z2 => ?_) (fun g2 G2 X2 M2 e2 z2 => ?_) rfl (congrArg some (oI_r x1)) (congrArg some (oI_r x2)) (congrArg some (oI_r x3))⟩
  · exact ⟨_, rfl, rfl, G2, X2, R0_f M2 mh_1 Q1, fun _ => rfl⟩
  · exfalso; omega
  · exfalso; omega
  · exact ⟨_, rfl, rfl, G2, X2, R0_f M2 mh_1 Q1, fun _ => rfl⟩
theorem mh_2 : kcla_a.2.2.2.1 &&& mR0 = 0 := by decide +kernel
theorem mh_3 : kmla_a.2.2.2.1 &&& mR0 = 0 := by decide +kernel
theorem pt_lamps {g : pH} (hG : g_I eG g) (hx : xL g) (hR : R0 g) (x1 : Int32) : pr_ R0 128 211 [.inl x1] 0 true g := by
  unfold pr_
  refine cla_run (i := x1.toInt) (by decide) (by decide) hG hx (i32_b _) (fun g1 G1 X1 M1 z1 => ?_) (fun g1 G1 X1 M1 e1 z1 => ?_) rfl (congrArg some (oI_r x1))
  all_goals
    have Q1 := R0_f M1 mh_2 hR
    refine ⟨_, rfl, rfl, mla_run (i := x1.toInt) (by decide) (by decide) G1 X1 (i32_b _) (fun g2 G2 X2 M2 z2 => ?_) (fun g2 G2 X2 M2 e2 z2 => ?_) rfl (congrArg some (oI_r x1))⟩
  · exact ⟨_, rfl, rfl, G2, X2, R0_f M2 mh_3 Q1, fun _ => rfl⟩
  · exfalso; omega
  · exfalso; omega
  · exact ⟨_, rfl, rfl, G2, X2, R0_f M2 mh_3 Q1, fun _ => rfl⟩
theorem mh_4 : kcse_a.2.2.2.1 &&& mR0 = 0 := by decide +kernel
theorem mh_5 : kmse_a.2.2.2.1 &&& mR0 = 0 := by decide +kernel
theorem pt_seed {g : pH} (hG : g_I eG g) (hx : xL g) (hR : R0 g) (x1 : Int32) : pr_ R0 144 245 [.inl x1] 0 true g := by
  unfold pr_
  refine cse_run (i := x1.toInt) (by decide) (by decide) hG hx (i32_b _) (fun g1 G1 X1 M1 z1 => ?_) (fun g1 G1 X1 M1 e1 z1 => ?_) rfl (congrArg some (oI_r x1))
  all_goals
    have Q1 := R0_f M1 mh_4 hR
    refine ⟨_, rfl, rfl, mse_run (i := x1.toInt) (by decide) (by decide) G1 X1 (i32_b _) (fun g2 G2 X2 M2 z2 => ?_) (fun g2 G2 X2 M2 e2 z2 => ?_) rfl (congrArg some (oI_r x1))⟩
  · exact ⟨_, rfl, rfl, G2, X2, R0_f M2 mh_5 Q1, fun _ => rfl⟩
  · exfalso; omega
  · exfalso; omega
  · exact ⟨_, rfl, rfl, G2, X2, R0_f M2 mh_5 Q1, fun _ => rfl⟩
end
