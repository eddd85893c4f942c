/-! the tie: slide of the reference (printed by wip/e2/t6.py) -/
theorem qmy_0 : xe_look (xc 251) 0 = some (.iload_n 1, 1, 0, 0, 0) := by decide +kernel
theorem qmy_1 : xe_look (xc 251) 1 = some (.iconst 0, 1, 0, 0, 0) := by decide +kernel
theorem qmy_2 : xe_look (xc 251) 2 = some (.bipush 31, 2, 0, 0, 0) := by decide +kernel
theorem qmy_4 : xe_look (xc 251) 4 = some (.invokestatic 201, 3, 0, 199, 1131) := by decide +kernel
theorem qmy_7 : xe_look (xc 251) 7 = some (.ifCond .eq 41, 3, 0, 0, 0) := by decide +kernel
theorem qmy_10 : xe_look (xc 251) 10 = some (.iload_n 2, 1, 0, 0, 0) := by decide +kernel
theorem qmy_11 : xe_look (xc 251) 11 = some (.iconst 0, 1, 0, 0, 0) := by decide +kernel
theorem qmy_12 : xe_look (xc 251) 12 = some (.iconst 3, 1, 0, 0, 0) := by decide +kernel
theorem qmy_13 : xe_look (xc 251) 13 = some (.invokestatic 201, 3, 0, 199, 1131) := by decide +kernel
theorem qmy_16 : xe_look (xc 251) 16 = some (.ifCond .eq 32, 3, 0, 0, 0) := by decide +kernel
theorem qmy_19 : xe_look (xc 251) 19 = some (.iload_n 3, 1, 0, 0, 0) := by decide +kernel
theorem qmy_20 : xe_look (xc 251) 20 = some (.iconst 0, 1, 0, 0, 0) := by decide +kernel
theorem qmy_21 : xe_look (xc 251) 21 = some (.iconst 3, 1, 0, 0, 0) := by decide +kernel
theorem qmy_22 : xe_look (xc 251) 22 = some (.invokestatic 201, 3, 0, 199, 1131) := by decide +kernel
theorem qmy_25 : xe_look (xc 251) 25 = some (.ifCond .eq 23, 3, 0, 0, 0) := by decide +kernel
theorem qmy_28 : xe_look (xc 251) 28 = some (.iload 4, 2, 0, 0, 0) := by decide +kernel
theorem qmy_30 : xe_look (xc 251) 30 = some (.iconst 0, 1, 0, 0, 0) := by decide +kernel
theorem qmy_31 : xe_look (xc 251) 31 = some (.bipush 99, 2, 0, 0, 0) := by decide +kernel
theorem qmy_33 : xe_look (xc 251) 33 = some (.invokestatic 201, 3, 0, 199, 1131) := by decide +kernel
theorem qmy_36 : xe_look (xc 251) 36 = some (.ifCond .eq 12, 3, 0, 0, 0) := by decide +kernel
theorem qmy_39 : xe_look (xc 251) 39 = some (.aload_n 0, 1, 0, 0, 0) := by decide +kernel
theorem qmy_40 : xe_look (xc 251) 40 = some (.getfield 194, 3, 12, 17, 1132) := by decide +kernel
theorem qmy_43 : xe_look (xc 251) 43 = some (.bipush 25, 2, 0, 0, 0) := by decide +kernel
theorem qmy_45 : xe_look (xc 251) 45 = some (.if_icmp .ge 5, 3, 0, 0, 0) := by decide +kernel
theorem qmy_50 : xe_look (xc 251) 50 = some (.aload_n 0, 1, 0, 0, 0) := by decide +kernel
theorem qmy_51 : xe_look (xc 251) 51 = some (.iconst 0, 1, 0, 0, 0) := by decide +kernel
theorem qmy_52 : xe_look (xc 251) 52 = some (.putfield 194, 3, 12, 17, 1132) := by decide +kernel
theorem qmy_55 : xe_look (xc 251) 55 = some (.iconst 0, 1, 0, 0, 0) := by decide +kernel
theorem qmy_56 : xe_look (xc 251) 56 = some (.istore 5, 2, 0, 0, 0) := by decide +kernel
theorem qmy_137 : xe_look (xc 251) 137 = some (.aload_n 0, 1, 0, 0, 0) := by decide +kernel
theorem qmy_138 : xe_look (xc 251) 138 = some (.aload_n 0, 1, 0, 0, 0) := by decide +kernel
theorem qmy_139 : xe_look (xc 251) 139 = some (.getfield 183, 3, 12, 0, 1158) := by decide +kernel
theorem qmy_142 : xe_look (xc 251) 142 = some (.iconst 1, 1, 0, 0, 0) := by decide +kernel
theorem qmy_143 : xe_look (xc 251) 143 = some (.iload_n 1, 1, 0, 0, 0) := by decide +kernel
theorem qmy_144 : xe_look (xc 251) 144 = some (.ishl, 1, 0, 0, 0) := by decide +kernel
theorem qmy_145 : xe_look (xc 251) 145 = some (.ior, 1, 0, 0, 0) := by decide +kernel
theorem qmy_146 : xe_look (xc 251) 146 = some (.putfield 183, 3, 12, 0, 1158) := by decide +kernel
theorem qmz_58 : xe_look (xc 251) 58 = some (.iload 5, 2, 0, 0, 0) := by decide +kernel
theorem qmz_60 : xe_look (xc 251) 60 = some (.bipush 25, 2, 0, 0, 0) := by decide +kernel
theorem qmz_62 : xe_look (xc 251) 62 = some (.if_icmp .ge 40, 3, 0, 0, 0) := by decide +kernel
theorem qmz_65 : xe_look (xc 251) 65 = some (.aload_n 0, 1, 0, 0, 0) := by decide +kernel
theorem qmz_66 : xe_look (xc 251) 66 = some (.getfield 53, 3, 12, 16, 1134) := by decide +kernel
theorem qmz_69 : xe_look (xc 251) 69 = some (.iload 5, 2, 0, 0, 0) := by decide +kernel
theorem qmz_71 : xe_look (xc 251) 71 = some (.baload, 1, 0, 0, 0) := by decide +kernel
theorem qmz_72 : xe_look (xc 251) 72 = some (.bipush 46, 2, 0, 0, 0) := by decide +kernel
theorem qmz_74 : xe_look (xc 251) 74 = some (.if_icmp .eq 22, 3, 0, 0, 0) := by decide +kernel
theorem qmz_77 : xe_look (xc 251) 77 = some (.aload_n 0, 1, 0, 0, 0) := by decide +kernel
theorem qmz_78 : xe_look (xc 251) 78 = some (.getfield 53, 3, 12, 16, 1134) := by decide +kernel
theorem qmz_81 : xe_look (xc 251) 81 = some (.iload 5, 2, 0, 0, 0) := by decide +kernel
theorem qmz_83 : xe_look (xc 251) 83 = some (.baload, 1, 0, 0, 0) := by decide +kernel
theorem qmz_84 : xe_look (xc 251) 84 = some (.bipush 97, 2, 0, 0, 0) := by decide +kernel
theorem qmz_86 : xe_look (xc 251) 86 = some (.bipush 122, 2, 0, 0, 0) := by decide +kernel
theorem qmz_88 : xe_look (xc 251) 88 = some (.invokestatic 201, 3, 0, 199, 1131) := by decide +kernel
theorem qmz_91 : xe_look (xc 251) 91 = some (.ifCond .ne 5, 3, 0, 0, 0) := by decide +kernel
theorem qmz_94 : xe_look (xc 251) 94 = some (.iconst 0, 1, 0, 0, 0) := by decide +kernel
theorem qmz_95 : xe_look (xc 251) 95 = some (.ireturn, 1, 0, 0, 0) := by decide +kernel
theorem qmz_96 : xe_look (xc 251) 96 = some (.iinc 5 1, 3, 0, 0, 0) := by decide +kernel
theorem qmz_99 : xe_look (xc 251) 99 = some (.goto (-41), 3, 0, 0, 0) := by decide +kernel
theorem pr_at {f : pH} {k y : Nat} {v : Int32} : (pu f.1 k y v, f.2).1 k y = v := pu_at ..
theorem pr_ne {f : pH} {k y a b : Nat} {v : Int32} (h : ¬ (a = k ∧ b = y)) : (pu f.1 k y v, f.2).1 a b = f.1 a b := if_neg h
section TX2
variable {d μ pc W : Nat} {lv : List (Nat × pv)} {r : List pv} {h0 g : pH} {P : Option pv × pH → Prop}
theorem tw_v {i x k y z : Nat} {v : Int32} (hq : xe_look (xc μ) pc = some (.putfield i, 3, x, y, z)) (hk : eL[k]? = some (0, x)) (ht : xk_ty x y = .int) (hJ : J_ W h0 g) (hW : W.testBit (cn k + y) = true) (hg : eG (cn k + y) = (-2147483648, 2147483647, [])) (hP : ∀ g1 : pH, J_ W h0 g1 → g1 = (pu g.1 k y v, g.2) → t_X d μ (pc + 3) lv r g1 P) : t_X d μ pc lv (.inl v :: pvR k :: r) g P := by
  refine t_4 hq rfl (pputi hk ht) (hP _ (J_puti hJ hk ht hW ?_) rfl)
  rw [hg]
  exact ok_full32 v
end TX2
theorem bt_clr {b : Int32} {v j : Nat} (hv : v < 32) (hj : j < 32) : (b &&& ((Int32.ofInt 1 <<< (Int32.ofInt (v : Int) &&& 31)) ^^^ Int32.ofInt (-1))).toBitVec.getLsbD j = (b.toBitVec.getLsbD j && !decide (j = v)) := by
  rw [← nI_o, bt_and hv, Int32.toBitVec_and, Int32.toBitVec_xor, Int32.toBitVec_shiftLeft, BitVec.getLsbD_and, BitVec.getLsbD_xor]
  have e1 : (Int32.ofInt 1).toBitVec <<< (nI v).toBitVec.smod 32 = 1#32 <<< v := by
    have e2 := bt_mod hv
    show (1#32) <<< ((nI v).toBitVec.smod 32).toNat = _
    rw [e2]
  have e3 : (Int32.ofInt (-1)).toBitVec = BitVec.allOnes 32 := by decide
  rw [e1, e3, BitVec.getLsbD_shiftLeft, BitVec.getLsbD_one, BitVec.getLsbD_allOnes]
  congr 1
  by_cases q : j = v
  · subst q; simp [hj]
  · simp [q, hj]; omega
theorem bt_st {b : Int32} {v j : Nat} (hv : v < 32) (hj : j < 32) : (b ||| (Int32.ofInt 1 <<< (Int32.ofInt (v : Int) &&& 31))).toBitVec.getLsbD j = (b.toBitVec.getLsbD j || decide (j = v)) := by
  rw [← nI_o]
  exact bt_set hv hj
def picM (g : pH) : Prop := ∀ k, k < 25 → fA g 211 k = 46 ∨ (97 ≤ fA g 211 k ∧ fA g 211 k ≤ 122)
theorem lv_i {lv : List (Nat × pv)} {q : Nat} {lo hi : Int} {xs : List Int} {ss : List eSL} (h : m_L lv ((q, 0, (lo, hi, [])) :: ss) xs) : ∃ (e : Int) (ys : List Int), px_lg lv q = some (oI e) ∧ (lo ≤ e ∧ e ≤ hi) ∧ m_L lv ss ys := by
  match xs, h with
  | x :: xs, h =>
    obtain ⟨⟨v, h1, h2, h3, h4⟩, h5⟩ := h
    obtain ⟨z, rfl⟩ := ct_0 h2
    have h3 : z.toInt = x := h3
    refine ⟨z.toInt, xs, ?_, ?_, h5⟩
    · rw [h1, oI_r]
    · rw [h3]
      exact ⟨h4.1, h4.2.1⟩
theorem lv_r {lv : List (Nat × pv)} {k r : Nat} {xs : List Int} (hr : r = k + 1) {ss : List eSL} (h : m_L lv ((0, 2, (0, 100000, [r])) :: ss) xs) : px_lg lv 0 = some (pvR k) ∧ ∃ ys, m_L lv ss ys := by
  match xs, h with
  | x :: xs, h =>
    obtain ⟨⟨v, h1, h2, h3, h4⟩, h5⟩ := h
    refine ⟨?_, xs, h5⟩
    obtain ⟨q, rfl⟩ := ct_2 h2
    rcases h4.2.2 with z | z
    · cases z
    · have z := List.mem_singleton.mp z
      match q, h1, h3 with
      | none, h1, h3 =>
        have h3 : (0 : Int) = x := h3
        subst h3
        rw [hr] at z
        have z : (0 : Int).toNat = k + 1 := z
        omega
      | some q, h1, h3 =>
        have h3 : (q : Int) + 1 = x := h3
        have z2 : x.toNat = k + 1 := by rw [← hr]; exact z
        rw [show q = k by omega] at h1
        exact h1
def kmsl_1 : eK := (251, (1, [(0, 2, (0, 100000, [197])), (1, 0, ((-2147483648), (-1), [])), (2, 0, ((-2147483648), 2147483647, [])), (3, 0, ((-2147483648), 2147483647, [])), (4, 0, ((-2147483648), 2147483647, []))], [], []), (0, []), 0, [(some (0, (0, 0, [])), [], [])])
theorem emsl_1 : ex_mid eG eKT eDX 4000 kmsl_1 [] 0 = true := by decide +kernel
def kmsl_2 : eK := (251, (1, [(0, 2, (0, 100000, [197])), (1, 0, (32, 2147483647, [])), (2, 0, ((-2147483648), 2147483647, [])), (3, 0, ((-2147483648), 2147483647, [])), (4, 0, ((-2147483648), 2147483647, []))], [], []), (0, []), 0, [(some (0, (0, 0, [])), [], [])])
theorem emsl_2 : ex_mid eG eKT eDX 4000 kmsl_2 [] 0 = true := by decide +kernel
def kmsl_3 : eK := (251, (1, [(0, 2, (0, 100000, [197])), (1, 0, ((-2147483648), 2147483647, [])), (2, 0, ((-2147483648), (-1), [])), (3, 0, ((-2147483648), 2147483647, [])), (4, 0, ((-2147483648), 2147483647, []))], [], []), (0, []), 0, [(some (0, (0, 0, [])), [], [])])
theorem emsl_3 : ex_mid eG eKT eDX 4000 kmsl_3 [] 0 = true := by decide +kernel
def kmsl_4 : eK := (251, (1, [(0, 2, (0, 100000, [197])), (1, 0, ((-2147483648), 2147483647, [])), (2, 0, (4, 2147483647, [])), (3, 0, ((-2147483648), 2147483647, [])), (4, 0, ((-2147483648), 2147483647, []))], [], []), (0, []), 0, [(some (0, (0, 0, [])), [], [])])
theorem emsl_4 : ex_mid eG eKT eDX 4000 kmsl_4 [] 0 = true := by decide +kernel
def kmsl_5 : eK := (251, (1, [(0, 2, (0, 100000, [197])), (1, 0, ((-2147483648), 2147483647, [])), (2, 0, ((-2147483648), 2147483647, [])), (3, 0, ((-2147483648), (-1), [])), (4, 0, ((-2147483648), 2147483647, []))], [], []), (0, []), 0, [(some (0, (0, 0, [])), [], [])])
theorem emsl_5 : ex_mid eG eKT eDX 4000 kmsl_5 [] 0 = true := by decide +kernel
def kmsl_6 : eK := (251, (1, [(0, 2, (0, 100000, [197])), (1, 0, ((-2147483648), 2147483647, [])), (2, 0, ((-2147483648), 2147483647, [])), (3, 0, (4, 2147483647, [])), (4, 0, ((-2147483648), 2147483647, []))], [], []), (0, []), 0, [(some (0, (0, 0, [])), [], [])])
theorem emsl_6 : ex_mid eG eKT eDX 4000 kmsl_6 [] 0 = true := by decide +kernel
def kmsl_7 : eK := (251, (1, [(0, 2, (0, 100000, [197])), (1, 0, ((-2147483648), 2147483647, [])), (2, 0, ((-2147483648), 2147483647, [])), (3, 0, ((-2147483648), 2147483647, [])), (4, 0, ((-2147483648), (-1), []))], [], []), (0, []), 0, [(some (0, (0, 0, [])), [], [])])
theorem emsl_7 : ex_mid eG eKT eDX 4000 kmsl_7 [] 0 = true := by decide +kernel
def kmsl_8 : eK := (251, (1, [(0, 2, (0, 100000, [197])), (1, 0, ((-2147483648), 2147483647, [])), (2, 0, ((-2147483648), 2147483647, [])), (3, 0, ((-2147483648), 2147483647, [])), (4, 0, (100, 2147483647, []))], [], []), (0, []), 0, [(some (0, (0, 0, [])), [], [])])
theorem emsl_8 : ex_mid eG eKT eDX 4000 kmsl_8 [] 0 = true := by decide +kernel
def kmsl_9 : eK := (251, (1, [(0, 2, (0, 100000, [197])), (1, 0, (0, 31, [])), (2, 0, (0, 3, [])), (3, 0, (0, 3, [])), (4, 0, (0, 99, []))], [(196, 17, 0, (0, 24, []))], []), (0, []), 0, [(some (0, (0, 0, [])), [], [])])
theorem emsl_9 : ex_mid eG eKT eDX 4000 kmsl_9 [] 0 = true := by decide +kernel
theorem gk_17 {g : pH} (hG : g_I eG g) : 0 ≤ fF g 17 ∧ fF g 17 ≤ 260 := gb_f hG (y := 17) rfl rfl gf_17
set_option maxHeartbeats 2000000 in
theorem ms_loop {d : Nat} (hd : 1 ≤ d) {g : pH} (hG : g_I eG g) {i a b c : Int} {P : Option pv × pH → Prop} (hA : picM g → ∀ lv : List (Nat × pv), px_lg lv 0 = some (pvR 196) → px_lg lv 1 = some (oI i) → px_lg lv 2 = some (oI a) → px_lg lv 3 = some (oI b) → px_lg lv 4 = some (oI c) → t_X d 251 102 lv [] g P) (hB : ¬ picM g → P (some (oI 0), g)) : ∀ (n m : Nat) (lv : List (Nat × pv)), 25 - m ≤ n → m ≤ 25 → (∀ k, k < m → fA g 211 k = 46 ∨ (97 ≤ fA g 211 k ∧ fA g 211 k ≤ 122)) → px_lg lv 0 = some (pvR 196) → px_lg lv 1 = some (oI i) → px_lg lv 2 = some (oI a) → px_lg lv 3 = some (oI b) → px_lg lv 4 = some (oI c) → px_lg lv 5 = some (oI (m : Int)) → t_X d 251 58 lv [] g P := by
  have hJ : J_ 0 g g := J_rf hG
  intro n
  induction n with
  | zero =>
    intro m lv hn hm hp l0 l1 l2 l3 l4 l5
    refine t_0 qmz_58 rfl (ld_i l5) ?_
    refine t_0 qmz_60 rfl (pq_b (by decide)) ?_
    refine tb_ge qmz_62 (by decide) ⟨by omega, by omega⟩ ⟨by omega, by omega⟩ (fun c1 => ?_) (fun c1 => absurd c1 (by omega))
    show t_X d 251 102 lv [] g P
    exact hA (fun k hk => hp k (by omega)) lv l0 l1 l2 l3 l4
  | succ n ih =>
    intro m lv hn hm2 hp l0 l1 l2 l3 l4 l5
    by_cases hm : m < 25
    · skip
      refine t_0 qmz_58 rfl (ld_i l5) ?_
      refine t_0 qmz_60 rfl (pq_b (by decide)) ?_
      refine tb_ge qmz_62 (by decide) ⟨by omega, by omega⟩ ⟨by omega, by omega⟩ (fun c1 => absurd c1 (by omega)) (fun c1 => ?_)
      show t_X d 251 65 lv [] g P
      refine t_0 qmz_65 rfl (ld_a l0) ?_
      refine t_0 qmz_66 rfl (ar_16 hJ.1) ?_
      refine t_0 qmz_69 rfl (ld_i l5) ?_
      refine t_0 qmz_71 rfl (pq_ba el_211 rfl ⟨by omega, by omega⟩) ?_
      show t_X d 251 72 lv [oI (fA g 211 m)] g P
      have r2 := fA_b g 211 m
      refine t_0 qmz_72 rfl (pq_b (by decide)) ?_
      refine tb_eq qmz_74 (by decide) ⟨by omega, by omega⟩ ⟨by omega, by omega⟩ (fun c3 => ?_) (fun c3 => ?_)
      · show t_X d 251 96 lv [] g P
        refine t_2 qmz_96 rfl (w := (px_s1 lv 5 (oI ((m : Int) + 1)), [])) (pq_inc l5 (by decide)) ?_
        replace l0 : px_lg (px_s1 lv 5 (oI ((m : Int) + 1))) 0 = some (pvR 196) := s1_ne (by decide) (fun _ => rfl) l0
        replace l1 : px_lg (px_s1 lv 5 (oI ((m : Int) + 1))) 1 = some (oI (i)) := s1_ne (by decide) (fun _ => rfl) l1
        replace l2 : px_lg (px_s1 lv 5 (oI ((m : Int) + 1))) 2 = some (oI (a)) := s1_ne (by decide) (fun _ => rfl) l2
        replace l3 : px_lg (px_s1 lv 5 (oI ((m : Int) + 1))) 3 = some (oI (b)) := s1_ne (by decide) (fun _ => rfl) l3
        replace l4 : px_lg (px_s1 lv 5 (oI ((m : Int) + 1))) 4 = some (oI (c)) := s1_ne (by decide) (fun _ => rfl) l4
        have l5 : px_lg (px_s1 lv 5 (oI ((m : Int) + 1))) 5 = some (oI ((m : Int) + 1)) := s1_eq
        generalize px_s1 lv 5 (oI ((m : Int) + 1)) = lv4 at l0 l1 l2 l3 l4 l5 ⊢
        show t_X d 251 99 lv4 [] g P
        refine t_1 qmz_99 rfl (pb_goto (pc := 99) (by decide)) ?_
        show t_X d 251 58 lv4 [] g P
        exact ih (m + 1) _ (by omega) (by omega) (fun k hk => by rcases Nat.lt_or_ge k m with z | z; exact hp k z; rw [show k = m by omega]; omega) l0 l1 l2 l3 l4 l5
      · show t_X d 251 77 lv [] g P
        refine t_0 qmz_77 rfl (ld_a l0) ?_
        refine t_0 qmz_78 rfl (ar_16 hJ.1) ?_
        refine t_0 qmz_81 rfl (ld_i l5) ?_
        refine t_0 qmz_83 rfl (pq_ba el_211 rfl ⟨by omega, by omega⟩) ?_
        show t_X d 251 84 lv [oI (fA g 211 m)] g P
        have r5 := fA_b g 211 m
        refine t_0 qmz_84 rfl (pq_b (by decide)) ?_
        refine t_0 qmz_86 rfl (pq_b (by decide)) ?_
        refine t_3 qmz_88 rfl (ar := ([oI (fA g 211 m), oI (97), oI (122)], [])) (pcal_s ⟨Or.inl rfl, rfl, Nat.le_of_ble_eq_true rfl⟩) ⟨by omega, Nat.le_of_ble_eq_true rfl, Nat.le_of_ble_eq_true rfl, rfl⟩ ?_
        refine in_run ⟨by omega, by omega⟩ ⟨by omega, by omega⟩ ⟨by omega, by omega⟩ rfl rfl rfl (fun t6 => ?_) (fun t6 => ?_)
        · show t_X d 251 91 lv [oI (1)] g P
          refine tz_ne qmz_91 (by decide) ⟨by omega, by omega⟩ (fun c7 => ?_) (fun c7 => absurd c7 (by omega))
          show t_X d 251 96 lv [] g P
          refine t_2 qmz_96 rfl (w := (px_s1 lv 5 (oI ((m : Int) + 1)), [])) (pq_inc l5 (by decide)) ?_
          replace l0 : px_lg (px_s1 lv 5 (oI ((m : Int) + 1))) 0 = some (pvR 196) := s1_ne (by decide) (fun _ => rfl) l0
          replace l1 : px_lg (px_s1 lv 5 (oI ((m : Int) + 1))) 1 = some (oI (i)) := s1_ne (by decide) (fun _ => rfl) l1
          replace l2 : px_lg (px_s1 lv 5 (oI ((m : Int) + 1))) 2 = some (oI (a)) := s1_ne (by decide) (fun _ => rfl) l2
          replace l3 : px_lg (px_s1 lv 5 (oI ((m : Int) + 1))) 3 = some (oI (b)) := s1_ne (by decide) (fun _ => rfl) l3
          replace l4 : px_lg (px_s1 lv 5 (oI ((m : Int) + 1))) 4 = some (oI (c)) := s1_ne (by decide) (fun _ => rfl) l4
          have l5 : px_lg (px_s1 lv 5 (oI ((m : Int) + 1))) 5 = some (oI ((m : Int) + 1)) := s1_eq
          generalize px_s1 lv 5 (oI ((m : Int) + 1)) = lv8 at l0 l1 l2 l3 l4 l5 ⊢
          show t_X d 251 99 lv8 [] g P
          refine t_1 qmz_99 rfl (pb_goto (pc := 99) (by decide)) ?_
          show t_X d 251 58 lv8 [] g P
          exact ih (m + 1) _ (by omega) (by omega) (fun k hk => by rcases Nat.lt_or_ge k m with z | z; exact hp k z; rw [show k = m by omega]; omega) l0 l1 l2 l3 l4 l5
        · show t_X d 251 91 lv [oI (0)] g P
          refine tz_ne qmz_91 (by decide) ⟨by omega, by omega⟩ (fun c9 => absurd c9 (by omega)) (fun c9 => ?_)
          show t_X d 251 94 lv [] g P
          refine t_0 qmz_94 rfl rfl ?_
          refine t_5 qmz_95 rfl rfl ?_
          exact hB (fun z => by have z1 := z m (by omega); omega)
    · skip
      refine t_0 qmz_58 rfl (ld_i l5) ?_
      refine t_0 qmz_60 rfl (pq_b (by decide)) ?_
      refine tb_ge qmz_62 (by decide) ⟨by omega, by omega⟩ ⟨by omega, by omega⟩ (fun c1 => ?_) (fun c1 => absurd c1 (by omega))
      show t_X d 251 102 lv [] g P
      exact hA (fun k hk => hp k (by omega)) lv l0 l1 l2 l3 l4
def cmsl (m : Nat) : List eCc := [(105, (1, [(0, 2, (0, 100000, [197])), (1, 0, ((m : Int), (m : Int), [])), (2, 0, (0, 3, [])), (3, 0, (0, 3, [])), (4, 0, (0, 99, [])), (5, 0, (0, 25, []))], [], []), (25, [(6, (-1))]))]
def kmsa (m : Nat) : eK := (251, (1, [(0, 2, (0, 100000, [197])), (1, 0, ((m : Int), (m : Int), [])), (2, 0, (0, 3, [])), (3, 0, (0, 3, [])), (4, 0, (0, 99, []))], [], []), (0, []), 2 ^ cn 210, [])
def smsa (m : Nat) : eCc := (137, (1, [(0, 2, (0, 100000, [197])), (1, 0, ((m : Int), (m : Int), [])), (2, 0, (0, 3, [])), (3, 0, (0, 3, [])), (4, 0, (0, 99, []))], [], []), (-1, []))
theorem emsa : (List.range 32).all (fun m => ex_to eG eKT eDX 4000 (kmsa m) (cmsl m) (smsa m) 102) = true := by decide +kernel
theorem emsa_at {m : Nat} (h : m < 32) : ex_to eG eKT eDX 4000 (kmsa m) (cmsl m) (smsa m) 102 = true := List.all_eq_true.mp emsa m (List.mem_range.mpr h)
def kmsb : eK := (251, (1, [(0, 2, (0, 100000, [197])), (1, 0, (0, 31, [])), (2, 0, (0, 3, [])), (3, 0, (0, 3, [])), (4, 0, (0, 99, []))], [], []), (0, []), 2377856618781599775606225302641545947853799353253181836555769175559959480547007969001610076075210503250974399560463715036764037447109554947365028900300287434365631758789379419288472675939573090198083100808929284445179285893796349486762112722174427609529968267957443721487966175958027043078144, [(some (0, (1, 1, [])), [], [])])
theorem emsb : ex_mid eG eKT eDX 4000 kmsb [] 149 = true := by decide +kernel
theorem Wmsl : kk_3.2.2.2.1.testBit (cn 196 + 17) = true ∧ kk_3.2.2.2.1.testBit (cn 196 + 0) = true ∧ kk_3.2.2.2.1 &&& eDX = 0 ∧ 2 ^ cn 210 &&& kk_3.2.2.2.1 = 2 ^ cn 210 ∧ kmsb.2.2.2.1 &&& kk_3.2.2.2.1 = kmsb.2.2.2.1 ∧ (2 ^ cn 210).testBit (cn 196 + 0) = false ∧ (2 ^ cn 210).testBit (cn 196 + 17) = false ∧ kmsb.2.2.2.1.testBit (cn 196 + 0) = false ∧ kmsb.2.2.2.1.testBit (cn 196 + 17) = false := by decide +kernel
theorem gF_0 : eG (cn 196 + 0) = (-2147483648, 2147483647, []) := by decide +kernel
set_option maxHeartbeats 4000000 in
theorem ms_tail {d : Nat} (hd : 2 ≤ d) (hd2 : d ≤ 1000000) {h0 g : pH} (hx0 : xL h0) (hJ : J_ kk_3.2.2.2.1 h0 g) {m : Nat} (hm : m < 32) {a b c : Int} (ha : 0 ≤ a ∧ a ≤ 3) (hb : 0 ≤ b ∧ b ≤ 3) (hc : 0 ≤ c ∧ c ≤ 99) {P : Option pv × pH → Prop} (hP : ∀ g1 : pH, J_ kk_3.2.2.2.1 h0 g1 → xL g1 → fF g1 17 = fF g 17 → g1.1 196 0 = (g.1 196 0 ||| (Int32.ofInt 1 <<< (Int32.ofInt (m : Int) &&& 31))) → P (some (oI 1), g1)) {lv : List (Nat × pv)} (l0 : px_lg lv 0 = some (pvR 196)) (l1 : px_lg lv 1 = some (oI (m : Int))) (l2 : px_lg lv 2 = some (oI a)) (l3 : px_lg lv 3 = some (oI b)) (l4 : px_lg lv 4 = some (oI c)) : t_X d 251 102 lv [] g P := by
  have w_0 := Wmsl.2.1
  refine to_L (k := kmsa m) (emsa_at hm) rfl hJ.1 (xL_K _ _ _ hJ.2 Wmsl.2.2.1 hx0) (xs := [cv (pvR 196), cv (oI (m : Int)), cv (oI a), cv (oI b), cv (oI c)]) (ys := []) ⟨by show 1 ≤ _; omega, ⟨⟨pvR 196, l0, rfl, rfl, ok_this⟩, ⟨oI (m : Int), l1, rfl, rfl, ok_oI (by omega) (by omega) (by omega)⟩, ⟨oI a, l2, rfl, rfl, ok_oI (by omega) (by decide) (by decide)⟩, ⟨oI b, l3, rfl, rfl, ok_oI (by omega) (by decide) (by decide)⟩, ⟨oI c, l4, rfl, rfl, ok_oI (by omega) (by decide) (by decide)⟩, trivial⟩, trivial, fun c hc => absurd hc List.not_mem_nil⟩ (by omega) (fun lvA gA xs2 ys2 G2 X2 M2 P2 => ?_)
  clear ha hb hc l0 l1 l2 l3 l4
  obtain ⟨-, L2, -, -⟩ := P2
  obtain ⟨l0, y0, L2⟩ := lv_r rfl L2
  obtain ⟨e1, y1, l1, h1, L2⟩ := lv_i L2
  obtain ⟨a, y2, l2, ha, L2⟩ := lv_i L2
  obtain ⟨b, y3, l3, hb, L2⟩ := lv_i L2
  obtain ⟨c, y4, l4, hc, L2⟩ := lv_i L2
  obtain rfl : e1 = (m : Int) := by omega
  have hJA : J_ kk_3.2.2.2.1 h0 gA := J_up Wmsl.2.2.2.1 hJ ⟨G2, M2⟩
  show t_X d 251 137 lvA [] gA P
  refine t_0 qmy_137 rfl (ld_a l0) ?_
  refine t_0 qmy_138 rfl (ld_a l0) ?_
  have r1 := fF_b gA 0
  refine t_0 qmy_139 rfl (pq_gf (y := 0) rfl) ?_
  refine t_0 qmy_142 rfl rfl ?_
  refine t_0 qmy_143 rfl (ld_i l1) ?_
  refine t_0 qmy_144 rfl rfl ?_
  refine t_0 qmy_145 rfl rfl ?_
  refine tw_v qmy_146 el_196 rfl hJA w_0 gF_0 (fun g2 hJ2 e2 => ?_)
  show t_X d 251 149 lvA [] g2 P
  refine mid_L (k := kmsb) emsb hJ2.1 (xL_K _ _ _ hJ2.2 Wmsl.2.2.1 hx0) (xs := [cv (pvR 196), cv (oI (m : Int)), cv (oI a), cv (oI b), cv (oI c)]) (ys := []) ⟨by show 1 ≤ _; omega, ⟨⟨pvR 196, l0, rfl, rfl, ok_this⟩, ⟨oI (m : Int), l1, rfl, rfl, ok_oI (by omega) (by decide) (by decide)⟩, ⟨oI a, l2, rfl, rfl, ok_oI (by omega) (by decide) (by decide)⟩, ⟨oI b, l3, rfl, rfl, ok_oI (by omega) (by decide) (by decide)⟩, ⟨oI c, l4, rfl, rfl, ok_oI (by omega) (by decide) (by decide)⟩, trivial⟩, trivial, fun c hc => absurd hc List.not_mem_nil⟩ (by omega) (fun o G1 X1 M1 P1 => ?_)
  obtain ⟨o1, o2⟩ := o
  obtain ⟨rfl, -⟩ := po_c P1
  refine hP o2 (J_up Wmsl.2.2.2.2.1 hJ2 ⟨G1, M1⟩) X1 ?_ ?_
  · rw [fF_M M1 Wmsl.2.2.2.2.2.2.2.2, e2]; exact (congrArg Int32.toInt (pr_ne (by decide))).trans (fF_M M2 Wmsl.2.2.2.2.2.2.1)
  · rw [(M1.1 196 0 Wmsl.2.2.2.2.2.2.2.1).1, e2]
    rw [pr_at, ← (M2.1 196 0 Wmsl.2.2.2.2.2.1).1]
    exact congrArg (· ||| _) (Int32.ofInt_toInt _)
theorem picM_1 {g g1 : pH} {f : Nat → Nat → Int32} (e : g1 = (f, g.2)) (h : picM g) : picM g1 := by rw [e]; exact h
theorem picM_2 {g g1 : pH} {f : Nat → Nat → Int32} (e : g1 = (f, g.2)) (h : picM g1) : picM g := by rw [e] at h; exact h
set_option maxHeartbeats 4000000 in
theorem ms_run {d : Nat} (hd : 6 ≤ d) (hd2 : d ≤ 1000000) {g : pH} (hG : g_I eG g) (hx : xL g) {i a b c : Int} (hi : -2147483648 ≤ i ∧ i ≤ 2147483647) (ha : -2147483648 ≤ a ∧ a ≤ 2147483647) (hb9 : -2147483648 ≤ b ∧ b ≤ 2147483647) (hc : -2147483648 ≤ c ∧ c ≤ 2147483647) {P : Option pv × pH → Prop} (hA : ∀ m : Nat, m < 32 → i = m → (0 ≤ i ∧ i ≤ 31) ∧ (0 ≤ a ∧ a ≤ 3) ∧ (0 ≤ b ∧ b ≤ 3) ∧ (0 ≤ c ∧ c ≤ 99) ∧ 25 ≤ cF g 196 17 → picM g → ∀ g1 : pH, g_I eG g1 → xL g1 → f_M kk_3.2.2.2.1 g g1 → cF g1 196 17 = 0 → (∀ j, j < 32 → (g1.1 196 0).toBitVec.getLsbD j = ((g.1 196 0).toBitVec.getLsbD j || decide (j = m))) → P (some (oI 1), g1)) (hB : (0 ≤ i ∧ i ≤ 31) ∧ (0 ≤ a ∧ a ≤ 3) ∧ (0 ≤ b ∧ b ≤ 3) ∧ (0 ≤ c ∧ c ≤ 99) ∧ 25 ≤ cF g 196 17 → ¬ picM g → ∀ g1 : pH, g_I eG g1 → xL g1 → f_M kk_3.2.2.2.1 g g1 → cF g1 196 17 = 0 → g1.1 196 0 = g.1 196 0 → P (some (oI 0), g1)) (hR : ∀ g1 : pH, g_I eG g1 → xL g1 → f_M kk_3.2.2.2.1 g g1 → (∀ u v, cF g1 u v = cF g u v) → ¬ ((0 ≤ i ∧ i ≤ 31) ∧ (0 ≤ a ∧ a ≤ 3) ∧ (0 ≤ b ∧ b ≤ 3) ∧ (0 ≤ c ∧ c ≤ 99) ∧ 25 ≤ cF g 196 17) → P (some (oI 0), g1)) {lv : List (Nat × pv)} (l0 : px_lg lv 0 = some (pvR 196)) (l1 : px_lg lv 1 = some (oI i)) (l2 : px_lg lv 2 = some (oI a)) (l3 : px_lg lv 3 = some (oI b)) (l4 : px_lg lv 4 = some (oI c)) : t_X d 251 0 lv [] g P := by
  have hJ : J_ kk_3.2.2.2.1 g g := J_rf hG
  have w_17 := Wmsl.1
  have hb : 0 ≤ cF g 196 17 ∧ cF g 196 17 ≤ 260 := gk_17 hG
  have hb2 : cF g 196 17 = fF g 17 := rfl
  by_cases a0 : i < 0
  · refine mid_L (k := kmsl_1) emsl_1 hG hx (xs := [cv (pvR 196), cv (oI i), cv (oI a), cv (oI b), cv (oI c)]) (ys := []) ⟨by show 1 ≤ _; omega, ⟨⟨pvR 196, l0, rfl, rfl, ok_this⟩, ⟨oI i, l1, rfl, rfl, ok_oI (by omega) (by decide) (by decide)⟩, ⟨oI a, l2, rfl, rfl, ok_full32 _⟩, ⟨oI b, l3, rfl, rfl, ok_full32 _⟩, ⟨oI c, l4, rfl, rfl, ok_full32 _⟩, trivial⟩, trivial, fun c hc => absurd hc List.not_mem_nil⟩ (by omega) (fun o G1 X1 M1 P1 => ?_)
    obtain ⟨o1, o2⟩ := o
    obtain ⟨rfl, -⟩ := po_c P1
    exact hR _ G1 X1 (f_M_0 M1) (fun u v => cF_M0 M1 u v) (fun z => by omega)
  · skip
    by_cases a1 : 31 < i
    · refine mid_L (k := kmsl_2) emsl_2 hG hx (xs := [cv (pvR 196), cv (oI i), cv (oI a), cv (oI b), cv (oI c)]) (ys := []) ⟨by show 1 ≤ _; omega, ⟨⟨pvR 196, l0, rfl, rfl, ok_this⟩, ⟨oI i, l1, rfl, rfl, ok_oI (by omega) (by decide) (by decide)⟩, ⟨oI a, l2, rfl, rfl, ok_full32 _⟩, ⟨oI b, l3, rfl, rfl, ok_full32 _⟩, ⟨oI c, l4, rfl, rfl, ok_full32 _⟩, trivial⟩, trivial, fun c hc => absurd hc List.not_mem_nil⟩ (by omega) (fun o G1 X1 M1 P1 => ?_)
      obtain ⟨o1, o2⟩ := o
      obtain ⟨rfl, -⟩ := po_c P1
      exact hR _ G1 X1 (f_M_0 M1) (fun u v => cF_M0 M1 u v) (fun z => by omega)
    · skip
      by_cases a2 : a < 0
      · refine mid_L (k := kmsl_3) emsl_3 hG hx (xs := [cv (pvR 196), cv (oI i), cv (oI a), cv (oI b), cv (oI c)]) (ys := []) ⟨by show 1 ≤ _; omega, ⟨⟨pvR 196, l0, rfl, rfl, ok_this⟩, ⟨oI i, l1, rfl, rfl, ok_full32 _⟩, ⟨oI a, l2, rfl, rfl, ok_oI (by omega) (by decide) (by decide)⟩, ⟨oI b, l3, rfl, rfl, ok_full32 _⟩, ⟨oI c, l4, rfl, rfl, ok_full32 _⟩, trivial⟩, trivial, fun c hc => absurd hc List.not_mem_nil⟩ (by omega) (fun o G1 X1 M1 P1 => ?_)
        obtain ⟨o1, o2⟩ := o
        obtain ⟨rfl, -⟩ := po_c P1
        exact hR _ G1 X1 (f_M_0 M1) (fun u v => cF_M0 M1 u v) (fun z => by omega)
      · skip
        by_cases a3 : 3 < a
        · refine mid_L (k := kmsl_4) emsl_4 hG hx (xs := [cv (pvR 196), cv (oI i), cv (oI a), cv (oI b), cv (oI c)]) (ys := []) ⟨by show 1 ≤ _; omega, ⟨⟨pvR 196, l0, rfl, rfl, ok_this⟩, ⟨oI i, l1, rfl, rfl, ok_full32 _⟩, ⟨oI a, l2, rfl, rfl, ok_oI (by omega) (by decide) (by decide)⟩, ⟨oI b, l3, rfl, rfl, ok_full32 _⟩, ⟨oI c, l4, rfl, rfl, ok_full32 _⟩, trivial⟩, trivial, fun c hc => absurd hc List.not_mem_nil⟩ (by omega) (fun o G1 X1 M1 P1 => ?_)
          obtain ⟨o1, o2⟩ := o
          obtain ⟨rfl, -⟩ := po_c P1
          exact hR _ G1 X1 (f_M_0 M1) (fun u v => cF_M0 M1 u v) (fun z => by omega)
        · skip
          by_cases a4 : b < 0
          · refine mid_L (k := kmsl_5) emsl_5 hG hx (xs := [cv (pvR 196), cv (oI i), cv (oI a), cv (oI b), cv (oI c)]) (ys := []) ⟨by show 1 ≤ _; omega, ⟨⟨pvR 196, l0, rfl, rfl, ok_this⟩, ⟨oI i, l1, rfl, rfl, ok_full32 _⟩, ⟨oI a, l2, rfl, rfl, ok_full32 _⟩, ⟨oI b, l3, rfl, rfl, ok_oI (by omega) (by decide) (by decide)⟩, ⟨oI c, l4, rfl, rfl, ok_full32 _⟩, trivial⟩, trivial, fun c hc => absurd hc List.not_mem_nil⟩ (by omega) (fun o G1 X1 M1 P1 => ?_)
            obtain ⟨o1, o2⟩ := o
            obtain ⟨rfl, -⟩ := po_c P1
            exact hR _ G1 X1 (f_M_0 M1) (fun u v => cF_M0 M1 u v) (fun z => by omega)
          · skip
            by_cases a5 : 3 < b
            · refine mid_L (k := kmsl_6) emsl_6 hG hx (xs := [cv (pvR 196), cv (oI i), cv (oI a), cv (oI b), cv (oI c)]) (ys := []) ⟨by show 1 ≤ _; omega, ⟨⟨pvR 196, l0, rfl, rfl, ok_this⟩, ⟨oI i, l1, rfl, rfl, ok_full32 _⟩, ⟨oI a, l2, rfl, rfl, ok_full32 _⟩, ⟨oI b, l3, rfl, rfl, ok_oI (by omega) (by decide) (by decide)⟩, ⟨oI c, l4, rfl, rfl, ok_full32 _⟩, trivial⟩, trivial, fun c hc => absurd hc List.not_mem_nil⟩ (by omega) (fun o G1 X1 M1 P1 => ?_)
              obtain ⟨o1, o2⟩ := o
              obtain ⟨rfl, -⟩ := po_c P1
              exact hR _ G1 X1 (f_M_0 M1) (fun u v => cF_M0 M1 u v) (fun z => by omega)
            · skip
              by_cases a6 : c < 0
              · refine mid_L (k := kmsl_7) emsl_7 hG hx (xs := [cv (pvR 196), cv (oI i), cv (oI a), cv (oI b), cv (oI c)]) (ys := []) ⟨by show 1 ≤ _; omega, ⟨⟨pvR 196, l0, rfl, rfl, ok_this⟩, ⟨oI i, l1, rfl, rfl, ok_full32 _⟩, ⟨oI a, l2, rfl, rfl, ok_full32 _⟩, ⟨oI b, l3, rfl, rfl, ok_full32 _⟩, ⟨oI c, l4, rfl, rfl, ok_oI (by omega) (by decide) (by decide)⟩, trivial⟩, trivial, fun c hc => absurd hc List.not_mem_nil⟩ (by omega) (fun o G1 X1 M1 P1 => ?_)
                obtain ⟨o1, o2⟩ := o
                obtain ⟨rfl, -⟩ := po_c P1
                exact hR _ G1 X1 (f_M_0 M1) (fun u v => cF_M0 M1 u v) (fun z => by omega)
              · skip
                by_cases a7 : 99 < c
                · refine mid_L (k := kmsl_8) emsl_8 hG hx (xs := [cv (pvR 196), cv (oI i), cv (oI a), cv (oI b), cv (oI c)]) (ys := []) ⟨by show 1 ≤ _; omega, ⟨⟨pvR 196, l0, rfl, rfl, ok_this⟩, ⟨oI i, l1, rfl, rfl, ok_full32 _⟩, ⟨oI a, l2, rfl, rfl, ok_full32 _⟩, ⟨oI b, l3, rfl, rfl, ok_full32 _⟩, ⟨oI c, l4, rfl, rfl, ok_oI (by omega) (by decide) (by decide)⟩, trivial⟩, trivial, fun c hc => absurd hc List.not_mem_nil⟩ (by omega) (fun o G1 X1 M1 P1 => ?_)
                  obtain ⟨o1, o2⟩ := o
                  obtain ⟨rfl, -⟩ := po_c P1
                  exact hR _ G1 X1 (f_M_0 M1) (fun u v => cF_M0 M1 u v) (fun z => by omega)
                · skip
                  by_cases a8 : cF g 196 17 < 25
                  · refine mid_L (k := kmsl_9) emsl_9 hG hx (xs := [cv (pvR 196), cv (oI i), cv (oI a), cv (oI b), cv (oI c)]) (ys := [cF g 196 17]) ⟨by show 1 ≤ _; omega, ⟨⟨pvR 196, l0, rfl, rfl, ok_this⟩, ⟨oI i, l1, rfl, rfl, ok_oI (by omega) (by decide) (by decide)⟩, ⟨oI a, l2, rfl, rfl, ok_oI (by omega) (by decide) (by decide)⟩, ⟨oI b, l3, rfl, rfl, ok_oI (by omega) (by decide) (by decide)⟩, ⟨oI c, l4, rfl, rfl, ok_oI (by omega) (by decide) (by decide)⟩, trivial⟩, ⟨⟨.inl (g.1 196 17), hc_i el_196 (Nat.le_of_ble_eq_true rfl) rfl, rfl, rfl, ⟨hb.1, show cF g 196 17 ≤ 24 by omega, Or.inl rfl⟩⟩, trivial⟩, fun c hc => absurd hc List.not_mem_nil⟩ (by omega) (fun o G1 X1 M1 P1 => ?_)
                    obtain ⟨o1, o2⟩ := o
                    obtain ⟨rfl, -⟩ := po_c P1
                    exact hR _ G1 X1 (f_M_0 M1) (fun u v => cF_M0 M1 u v) (fun z => by omega)
                  · skip
                    obtain ⟨m, rfl⟩ : ∃ m : Nat, i = m := ⟨i.toNat, by omega⟩
                    have hm : m < 32 := by omega
                    refine t_0 qmy_0 rfl (ld_i l1) ?_
                    refine t_0 qmy_1 rfl rfl ?_
                    refine t_0 qmy_2 rfl (pq_b (by decide)) ?_
                    refine t_3 qmy_4 rfl (ar := ([oI ((m : Int)), oI (0), oI (31)], [])) (pcal_s ⟨Or.inl rfl, rfl, Nat.le_of_ble_eq_true rfl⟩) ⟨by omega, Nat.le_of_ble_eq_true rfl, Nat.le_of_ble_eq_true rfl, rfl⟩ ?_
                    refine in_run ⟨by omega, by omega⟩ ⟨by omega, by omega⟩ ⟨by omega, by omega⟩ rfl rfl rfl (fun t1 => ?_) (fun t1 => absurd t1 (by omega))
                    show t_X d 251 7 lv [oI (1)] g P
                    refine tz_eq qmy_7 (by decide) ⟨by omega, by omega⟩ (fun c2 => absurd c2 (by omega)) (fun c2 => ?_)
                    show t_X d 251 10 lv [] g P
                    refine t_0 qmy_10 rfl (ld_i l2) ?_
                    refine t_0 qmy_11 rfl rfl ?_
                    refine t_0 qmy_12 rfl rfl ?_
                    refine t_3 qmy_13 rfl (ar := ([oI (a), oI (0), oI (3)], [])) (pcal_s ⟨Or.inl rfl, rfl, Nat.le_of_ble_eq_true rfl⟩) ⟨by omega, Nat.le_of_ble_eq_true rfl, Nat.le_of_ble_eq_true rfl, rfl⟩ ?_
                    refine in_run ⟨by omega, by omega⟩ ⟨by omega, by omega⟩ ⟨by omega, by omega⟩ rfl rfl rfl (fun t3 => ?_) (fun t3 => absurd t3 (by omega))
                    show t_X d 251 16 lv [oI (1)] g P
                    refine tz_eq qmy_16 (by decide) ⟨by omega, by omega⟩ (fun c4 => absurd c4 (by omega)) (fun c4 => ?_)
                    show t_X d 251 19 lv [] g P
                    refine t_0 qmy_19 rfl (ld_i l3) ?_
                    refine t_0 qmy_20 rfl rfl ?_
                    refine t_0 qmy_21 rfl rfl ?_
                    refine t_3 qmy_22 rfl (ar := ([oI (b), oI (0), oI (3)], [])) (pcal_s ⟨Or.inl rfl, rfl, Nat.le_of_ble_eq_true rfl⟩) ⟨by omega, Nat.le_of_ble_eq_true rfl, Nat.le_of_ble_eq_true rfl, rfl⟩ ?_
                    refine in_run ⟨by omega, by omega⟩ ⟨by omega, by omega⟩ ⟨by omega, by omega⟩ rfl rfl rfl (fun t5 => ?_) (fun t5 => absurd t5 (by omega))
                    show t_X d 251 25 lv [oI (1)] g P
                    refine tz_eq qmy_25 (by decide) ⟨by omega, by omega⟩ (fun c6 => absurd c6 (by omega)) (fun c6 => ?_)
                    show t_X d 251 28 lv [] g P
                    refine t_0 qmy_28 rfl (ld_i l4) ?_
                    refine t_0 qmy_30 rfl rfl ?_
                    refine t_0 qmy_31 rfl (pq_b (by decide)) ?_
                    refine t_3 qmy_33 rfl (ar := ([oI (c), oI (0), oI (99)], [])) (pcal_s ⟨Or.inl rfl, rfl, Nat.le_of_ble_eq_true rfl⟩) ⟨by omega, Nat.le_of_ble_eq_true rfl, Nat.le_of_ble_eq_true rfl, rfl⟩ ?_
                    refine in_run ⟨by omega, by omega⟩ ⟨by omega, by omega⟩ ⟨by omega, by omega⟩ rfl rfl rfl (fun t7 => ?_) (fun t7 => absurd t7 (by omega))
                    show t_X d 251 36 lv [oI (1)] g P
                    refine tz_eq qmy_36 (by decide) ⟨by omega, by omega⟩ (fun c8 => absurd c8 (by omega)) (fun c8 => ?_)
                    show t_X d 251 39 lv [] g P
                    refine t_0 qmy_39 rfl (ld_a l0) ?_
                    have r9 := gb_f hJ.1 (y := 17) rfl rfl gf_17
                    refine t_0 qmy_40 rfl (pq_gf (y := 17) rfl) ?_
                    refine t_0 qmy_43 rfl (pq_b (by decide)) ?_
                    refine tb_ge qmy_45 (by decide) ⟨by omega, by omega⟩ ⟨by omega, by omega⟩ (fun c10 => ?_) (fun c10 => absurd c10 (by omega))
                    show t_X d 251 50 lv [] g P
                    refine t_0 qmy_50 rfl (ld_a l0) ?_
                    refine t_0 qmy_51 rfl rfl ?_
                    refine tw_c qmy_52 el_196 rfl hJ w_17 gf_17 (by decide) ⟨by omega, by omega⟩ (fun g11 hJ11 e11 => ?_)
                    show t_X d 251 55 lv [] g11 P
                    refine t_0 qmy_55 rfl rfl ?_
                    refine t_2 qmy_56 rfl (w := (px_s1 lv 5 (oI (0)), [])) rfl ?_
                    replace l0 : px_lg (px_s1 lv 5 (oI (0))) 0 = some (pvR 196) := s1_ne (by decide) (fun _ => rfl) l0
                    replace l1 : px_lg (px_s1 lv 5 (oI (0))) 1 = some (oI ((m : Int))) := s1_ne (by decide) (fun _ => rfl) l1
                    replace l2 : px_lg (px_s1 lv 5 (oI (0))) 2 = some (oI (a)) := s1_ne (by decide) (fun _ => rfl) l2
                    replace l3 : px_lg (px_s1 lv 5 (oI (0))) 3 = some (oI (b)) := s1_ne (by decide) (fun _ => rfl) l3
                    replace l4 : px_lg (px_s1 lv 5 (oI (0))) 4 = some (oI (c)) := s1_ne (by decide) (fun _ => rfl) l4
                    have l5 : px_lg (px_s1 lv 5 (oI (0))) 5 = some (oI (0)) := s1_eq
                    generalize px_s1 lv 5 (oI (0)) = lv12 at l0 l1 l2 l3 l4 l5 ⊢
                    show t_X d 251 58 lv12 [] g11 P
                    refine ms_loop (by omega) hJ11.1 (fun hp lv9 u0 u1 u2 u3 u4 => ?_) (fun hp => ?_) 25 0 _ (by omega) (by omega) (fun k hk => absurd hk (by omega)) l0 l1 l2 l3 l4 l5
                    · refine ms_tail (by omega) hd2 hx hJ11 hm (by omega) (by omega) (by omega) (fun g1 J1 X1 b1 b2 => ?_) u0 u1 u2 u3 u4
                      refine hA m hm rfl (by omega) (picM_2 e11 hp) g1 J1.1 X1 J1.2 ?_ (fun j hj => ?_)
                      · exact b1.trans (by rw [e11]; exact pc_at (by omega) (by omega))
                      · rw [b2, bt_st hm hj, show g11.1 196 0 = g.1 196 0 by rw [e11]; exact pr_ne (by decide)]
                    · refine hB (by omega) (fun z => hp (picM_1 e11 z)) g11 hJ11.1 (xL_K _ _ _ hJ11.2 Wmsl.2.2.1 hx) hJ11.2 ?_ ?_
                      · rw [e11]; exact pc_at (by omega) (by omega)
                      · rw [e11]; exact pr_ne (by decide)
