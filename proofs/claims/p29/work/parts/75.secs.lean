section
/-! by hand: both, secondsBy (printed in part by wip/e2/sb.py) -/
theorem pirem {d x y : Nat} {lv : List (Nat × pv)} {a b : Int32} {r : List pv} {h : pH} (hne : ¬ b = 0) : px_push eL d none .irem x y lv (.inl b :: .inl a :: r) h = some (.inl (a - a / b * b) :: r) := if_neg hne
theorem qb_0 : xe_look (xc 172) 0 = some (.iload_n 0, 1, 0, 0, 0) := by decide +kernel
theorem qb_1 : xe_look (xc 172) 1 = some (.iconst 4, 1, 0, 0, 0) := by decide +kernel
theorem qb_2 : xe_look (xc 172) 2 = some (.iand, 1, 0, 0, 0) := by decide +kernel
theorem qb_3 : xe_look (xc 172) 3 = some (.iload_n 1, 1, 0, 0, 0) := by decide +kernel
theorem qb_4 : xe_look (xc 172) 4 = some (.iconst 4, 1, 0, 0, 0) := by decide +kernel
theorem qb_5 : xe_look (xc 172) 5 = some (.iand, 1, 0, 0, 0) := by decide +kernel
theorem qb_6 : xe_look (xc 172) 6 = some (.ixor, 1, 0, 0, 0) := by decide +kernel
theorem qb_7 : xe_look (xc 172) 7 = some (.iload_n 1, 1, 0, 0, 0) := by decide +kernel
theorem qb_8 : xe_look (xc 172) 8 = some (.iconst 4, 1, 0, 0, 0) := by decide +kernel
theorem qb_9 : xe_look (xc 172) 9 = some (.irem, 1, 0, 0, 0) := by decide +kernel
theorem qb_10 : xe_look (xc 172) 10 = some (.iload_n 1, 1, 0, 0, 0) := by decide +kernel
theorem qb_11 : xe_look (xc 172) 11 = some (.iconst 3, 1, 0, 0, 0) := by decide +kernel
theorem qb_12 : xe_look (xc 172) 12 = some (.if_icmp .le 11, 3, 0, 0, 0) := by decide +kernel
theorem qb_15 : xe_look (xc 172) 15 = some (.iconst 4, 1, 0, 0, 0) := by decide +kernel
theorem qb_16 : xe_look (xc 172) 16 = some (.iload_n 0, 1, 0, 0, 0) := by decide +kernel
theorem qb_17 : xe_look (xc 172) 17 = some (.iconst 4, 1, 0, 0, 0) := by decide +kernel
theorem qb_18 : xe_look (xc 172) 18 = some (.irem, 1, 0, 0, 0) := by decide +kernel
theorem qb_19 : xe_look (xc 172) 19 = some (.isub, 1, 0, 0, 0) := by decide +kernel
theorem qb_20 : xe_look (xc 172) 20 = some (.goto 6, 3, 0, 0, 0) := by decide +kernel
theorem qb_23 : xe_look (xc 172) 23 = some (.iload_n 0, 1, 0, 0, 0) := by decide +kernel
theorem qb_24 : xe_look (xc 172) 24 = some (.iconst 4, 1, 0, 0, 0) := by decide +kernel
theorem qb_25 : xe_look (xc 172) 25 = some (.irem, 1, 0, 0, 0) := by decide +kernel
theorem qb_26 : xe_look (xc 172) 26 = some (.iadd, 1, 0, 0, 0) := by decide +kernel
theorem qb_27 : xe_look (xc 172) 27 = some (.iconst 4, 1, 0, 0, 0) := by decide +kernel
theorem qb_28 : xe_look (xc 172) 28 = some (.irem, 1, 0, 0, 0) := by decide +kernel
theorem qb_29 : xe_look (xc 172) 29 = some (.iadd, 1, 0, 0, 0) := by decide +kernel
theorem qb_30 : xe_look (xc 172) 30 = some (.ireturn, 1, 0, 0, 0) := by decide +kernel
theorem qy_0 : xe_look (xc 244) 0 = some (.lconst 0, 1, 0, 0, 0) := by decide +kernel
theorem qy_1 : xe_look (xc 244) 1 = some (.lstore_n 1, 1, 0, 0, 0) := by decide +kernel
theorem qy_2 : xe_look (xc 244) 2 = some (.iconst 0, 1, 0, 0, 0) := by decide +kernel
theorem qy_3 : xe_look (xc 244) 3 = some (.istore_n 3, 1, 0, 0, 0) := by decide +kernel
theorem qy_4 : xe_look (xc 244) 4 = some (.iload_n 3, 1, 0, 0, 0) := by decide +kernel
theorem qy_5 : xe_look (xc 244) 5 = some (.bipush 8, 2, 0, 0, 0) := by decide +kernel
theorem qy_7 : xe_look (xc 244) 7 = some (.if_icmp .ge 88, 3, 0, 0, 0) := by decide +kernel
theorem qy_10 : xe_look (xc 244) 10 = some (.iload_n 3, 1, 0, 0, 0) := by decide +kernel
theorem qy_11 : xe_look (xc 244) 11 = some (.istore 4, 2, 0, 0, 0) := by decide +kernel
theorem qy_13 : xe_look (xc 244) 13 = some (.iconst 0, 1, 0, 0, 0) := by decide +kernel
theorem qy_14 : xe_look (xc 244) 14 = some (.istore 5, 2, 0, 0, 0) := by decide +kernel
theorem qy_16 : xe_look (xc 244) 16 = some (.iconst 0, 1, 0, 0, 0) := by decide +kernel
theorem qy_17 : xe_look (xc 244) 17 = some (.istore 6, 2, 0, 0, 0) := by decide +kernel
theorem qy_19 : xe_look (xc 244) 19 = some (.iload 6, 2, 0, 0, 0) := by decide +kernel
theorem qy_21 : xe_look (xc 244) 21 = some (.bipush 7, 2, 0, 0, 0) := by decide +kernel
theorem qy_23 : xe_look (xc 244) 23 = some (.if_icmp .ge 52, 3, 0, 0, 0) := by decide +kernel
theorem qy_26 : xe_look (xc 244) 26 = some (.aload_n 0, 1, 0, 0, 0) := by decide +kernel
theorem qy_27 : xe_look (xc 244) 27 = some (.getfield 444, 3, 12, 61, 1238) := by decide +kernel
theorem qy_30 : xe_look (xc 244) 30 = some (.iload 4, 2, 0, 0, 0) := by decide +kernel
theorem qy_32 : xe_look (xc 244) 32 = some (.invokestatic 187, 3, 0, 196, 1121) := by decide +kernel
theorem qy_35 : xe_look (xc 244) 35 = some (.ifCond .ne 40, 3, 0, 0, 0) := by decide +kernel
theorem qy_38 : xe_look (xc 244) 38 = some (.iload 5, 2, 0, 0, 0) := by decide +kernel
theorem qy_40 : xe_look (xc 244) 40 = some (.aload_n 0, 1, 0, 0, 0) := by decide +kernel
theorem qy_41 : xe_look (xc 244) 41 = some (.getfield 110, 3, 12, 56, 1199) := by decide +kernel
theorem qy_44 : xe_look (xc 244) 44 = some (.aload_n 0, 1, 0, 0, 0) := by decide +kernel
theorem qy_45 : xe_look (xc 244) 45 = some (.getfield 113, 3, 12, 57, 1200) := by decide +kernel
theorem qy_48 : xe_look (xc 244) 48 = some (.iload 6, 2, 0, 0, 0) := by decide +kernel
theorem qy_50 : xe_look (xc 244) 50 = some (.iaload, 1, 0, 0, 0) := by decide +kernel
theorem qy_51 : xe_look (xc 244) 51 = some (.iaload, 1, 0, 0, 0) := by decide +kernel
theorem qy_52 : xe_look (xc 244) 52 = some (.iadd, 1, 0, 0, 0) := by decide +kernel
theorem qy_53 : xe_look (xc 244) 53 = some (.istore 5, 2, 0, 0, 0) := by decide +kernel
theorem qy_55 : xe_look (xc 244) 55 = some (.iload 4, 2, 0, 0, 0) := by decide +kernel
theorem qy_57 : xe_look (xc 244) 57 = some (.aload_n 0, 1, 0, 0, 0) := by decide +kernel
theorem qy_58 : xe_look (xc 244) 58 = some (.getfield 113, 3, 12, 57, 1200) := by decide +kernel
theorem qy_61 : xe_look (xc 244) 61 = some (.iload 6, 2, 0, 0, 0) := by decide +kernel
theorem qy_63 : xe_look (xc 244) 63 = some (.iaload, 1, 0, 0, 0) := by decide +kernel
theorem qy_64 : xe_look (xc 244) 64 = some (.invokestatic 218, 3, 0, 172, 1240) := by decide +kernel
theorem qy_67 : xe_look (xc 244) 67 = some (.istore 4, 2, 0, 0, 0) := by decide +kernel
theorem qy_69 : xe_look (xc 244) 69 = some (.iinc 6 1, 3, 0, 0, 0) := by decide +kernel
theorem qy_72 : xe_look (xc 244) 72 = some (.goto (-53), 3, 0, 0, 0) := by decide +kernel
theorem qy_75 : xe_look (xc 244) 75 = some (.lload_n 1, 1, 0, 0, 0) := by decide +kernel
theorem qy_76 : xe_look (xc 244) 76 = some (.aload_n 0, 1, 0, 0, 0) := by decide +kernel
theorem qy_77 : xe_look (xc 244) 77 = some (.getfield 107, 3, 12, 55, 1187) := by decide +kernel
theorem qy_80 : xe_look (xc 244) 80 = some (.iload_n 3, 1, 0, 0, 0) := by decide +kernel
theorem qy_81 : xe_look (xc 244) 81 = some (.iaload, 1, 0, 0, 0) := by decide +kernel
theorem qy_82 : xe_look (xc 244) 82 = some (.i2l, 1, 0, 0, 0) := by decide +kernel
theorem qy_83 : xe_look (xc 244) 83 = some (.iload 5, 2, 0, 0, 0) := by decide +kernel
theorem qy_85 : xe_look (xc 244) 85 = some (.i2l, 1, 0, 0, 0) := by decide +kernel
theorem qy_86 : xe_look (xc 244) 86 = some (.lmul, 1, 0, 0, 0) := by decide +kernel
theorem qy_87 : xe_look (xc 244) 87 = some (.ladd, 1, 0, 0, 0) := by decide +kernel
theorem qy_88 : xe_look (xc 244) 88 = some (.lstore_n 1, 1, 0, 0, 0) := by decide +kernel
theorem qy_89 : xe_look (xc 244) 89 = some (.iinc 3 1, 3, 0, 0, 0) := by decide +kernel
theorem qy_92 : xe_look (xc 244) 92 = some (.goto (-88), 3, 0, 0, 0) := by decide +kernel
theorem qy_95 : xe_look (xc 244) 95 = some (.lload_n 1, 1, 0, 0, 0) := by decide +kernel
theorem qy_96 : xe_look (xc 244) 96 = some (.lreturn, 1, 0, 0, 0) := by decide +kernel
def bo_1 (p q : Int32) : Int32 := (((p) &&& (Int32.ofInt (4))) ^^^ ((q) &&& (Int32.ofInt (4)))) + ((((q) - (q) / (Int32.ofInt (4)) * (Int32.ofInt (4))) + ((Int32.ofInt (4)) - ((p) - (p) / (Int32.ofInt (4)) * (Int32.ofInt (4))))) - (((q) - (q) / (Int32.ofInt (4)) * (Int32.ofInt (4))) + ((Int32.ofInt (4)) - ((p) - (p) / (Int32.ofInt (4)) * (Int32.ofInt (4))))) / (Int32.ofInt (4)) * (Int32.ofInt (4)))
def bo_2 (p q : Int32) : Int32 := (((p) &&& (Int32.ofInt (4))) ^^^ ((q) &&& (Int32.ofInt (4)))) + ((((q) - (q) / (Int32.ofInt (4)) * (Int32.ofInt (4))) + ((p) - (p) / (Int32.ofInt (4)) * (Int32.ofInt (4)))) - (((q) - (q) / (Int32.ofInt (4)) * (Int32.ofInt (4))) + ((p) - (p) / (Int32.ofInt (4)) * (Int32.ofInt (4)))) / (Int32.ofInt (4)) * (Int32.ofInt (4)))
theorem bo_b {i k : Nat} (hi : i < 8) (hk : k < 8) : ((Int32.ofInt 3 < nI k) → 0 ≤ (bo_1 (nI i) (nI k)).toInt ∧ (bo_1 (nI i) (nI k)).toInt ≤ 7) ∧ (¬ (Int32.ofInt 3 < nI k) → 0 ≤ (bo_2 (nI i) (nI k)).toInt ∧ (bo_2 (nI i) (nI k)).toInt ≤ 7) := by
  have : ∀ i, i < 8 → ∀ k, k < 8 → ((Int32.ofInt 3 < nI k) → 0 ≤ (bo_1 (nI i) (nI k)).toInt ∧ (bo_1 (nI i) (nI k)).toInt ≤ 7) ∧ (¬ (Int32.ofInt 3 < nI k) → 0 ≤ (bo_2 (nI i) (nI k)).toInt ∧ (bo_2 (nI i) (nI k)).toInt ≤ 7) := by decide +kernel
  exact this i hi k hk
set_option maxHeartbeats 2000000 in
theorem both_go {d : Nat} {h : pH} {p q : Int32} {lv : List (Nat × pv)} {P : Option pv × pH → Prop} (l0 : px_lg lv 0 = some (.inl p)) (l1 : px_lg lv 1 = some (.inl q)) (h1 : Int32.ofInt 3 < q → P (some (.inl (bo_1 p q)), h)) (h2 : ¬ (Int32.ofInt 3 < q) → P (some (.inl (bo_2 p q)), h)) : t_X d 172 0 lv [] h P := by
  refine t_0 qb_0 rfl (ld_i l0) ?_
  refine t_0 qb_1 rfl rfl ?_
  refine t_0 qb_2 rfl rfl ?_
  refine t_0 qb_3 rfl (ld_i l1) ?_
  refine t_0 qb_4 rfl rfl ?_
  refine t_0 qb_5 rfl rfl ?_
  refine t_0 qb_6 rfl rfl ?_
  refine t_0 qb_7 rfl (ld_i l1) ?_
  refine t_0 qb_8 rfl rfl ?_
  refine t_0 qb_9 rfl (pirem (by decide +kernel)) ?_
  refine t_0 qb_10 rfl (ld_i l1) ?_
  refine t_0 qb_11 rfl rfl ?_
  by_cases hq : Int32.ofInt 3 < q
  · refine t_1 qb_12 rfl (pc_le_f (pc := 12) (by decide) hq) ?_
    show t_X d 172 15 lv [.inl ((q) - (q) / (Int32.ofInt (4)) * (Int32.ofInt (4))), .inl (((p) &&& (Int32.ofInt (4))) ^^^ ((q) &&& (Int32.ofInt (4))))] h P
    refine t_0 qb_15 rfl rfl ?_
    refine t_0 qb_16 rfl (ld_i l0) ?_
    refine t_0 qb_17 rfl rfl ?_
    refine t_0 qb_18 rfl (pirem (by decide +kernel)) ?_
    refine t_0 qb_19 rfl rfl ?_
    refine t_1 qb_20 rfl (pb_goto (pc := 20) (by decide)) ?_
    show t_X d 172 26 lv [.inl ((Int32.ofInt (4)) - ((p) - (p) / (Int32.ofInt (4)) * (Int32.ofInt (4)))), .inl ((q) - (q) / (Int32.ofInt (4)) * (Int32.ofInt (4))), .inl (((p) &&& (Int32.ofInt (4))) ^^^ ((q) &&& (Int32.ofInt (4))))] h P
    refine t_0 qb_26 rfl rfl ?_
    refine t_0 qb_27 rfl rfl ?_
    refine t_0 qb_28 rfl (pirem (by decide +kernel)) ?_
    refine t_0 qb_29 rfl rfl ?_
    refine t_5 qb_30 rfl rfl ?_
    exact h1 hq
  · refine t_1 qb_12 rfl (pc_le_t (pc := 12) (by decide) hq) ?_
    show t_X d 172 23 lv [.inl ((q) - (q) / (Int32.ofInt (4)) * (Int32.ofInt (4))), .inl (((p) &&& (Int32.ofInt (4))) ^^^ ((q) &&& (Int32.ofInt (4))))] h P
    refine t_0 qb_23 rfl (ld_i l0) ?_
    refine t_0 qb_24 rfl rfl ?_
    refine t_0 qb_25 rfl (pirem (by decide +kernel)) ?_
    refine t_0 qb_26 rfl rfl ?_
    refine t_0 qb_27 rfl rfl ?_
    refine t_0 qb_28 rfl (pirem (by decide +kernel)) ?_
    refine t_0 qb_29 rfl rfl ?_
    refine t_5 qb_30 rfl rfl ?_
    exact h2 hq
theorem i_nI {p : Int32} {n : Nat} (h0 : 0 ≤ p.toInt) (h1 : p.toInt ≤ n) (hn : n < 1000) : ∃ i : Nat, i ≤ n ∧ p = nI i := ⟨p.toInt.toNat, by omega, Int32.toInt_inj.mp (by rw [nI_toInt (by omega)]; omega)⟩
theorem both_run {d : Nat} {h : pH} {p q : Int32} {P : Option pv × pH → Prop} (hp : 0 ≤ p.toInt ∧ p.toInt ≤ 7) (hq : 0 ≤ q.toInt ∧ q.toInt ≤ 7) (hP : ∀ r : Int32, 0 ≤ r.toInt → r.toInt ≤ 7 → P (some (.inl r), h)) : t_X d 172 0 [(0, .inl p), (1, .inl q)] [] h P := by
  obtain ⟨i, hi, rfl⟩ := i_nI (n := 7) hp.1 hp.2 (by decide)
  obtain ⟨k, hk, rfl⟩ := i_nI (n := 7) hq.1 hq.2 (by decide)
  have hb := bo_b (i := i) (k := k) (by omega) (by omega)
  exact both_go rfl rfl (fun z => hP _ (hb.1 z).1 (hb.1 z).2) (fun z => hP _ (hb.2 z).1 (hb.2 z).2)
theorem el_229 : eL[229]? = some (1, 8) := by decide +kernel
theorem el_230 : eL[230]? = some (1, 8) := by decide +kernel
theorem el_231 : eL[231]? = some (1, 7) := by decide +kernel
theorem eg_f55 : (eG (cn 196 + 55)).2.2 = [230] := by decide +kernel
theorem eg_f56 : (eG (cn 196 + 56)).2.2 = [231] := by decide +kernel
theorem eg_f57 : (eG (cn 196 + 57)).2.2 = [232] := by decide +kernel
set_option maxHeartbeats 4000000 in
theorem sb_in {d : Nat} (hd : 2 ≤ d) {h : pH} (hG : g_I eG h) (hrow : ∀ j, j < 7 → 1 ≤ (h.2.2.2.1 231 j).toInt ∧ (h.2.2.2.1 231 j).toInt ≤ 7) {P : Option pv × pH → Prop} {i : Nat} {acc : Int64} (hC : ∀ (lv : List (Nat × pv)) (x5 : Int32), px_lg lv 0 = some (.inr (.inr (some 196))) → px_lg lv 1 = some (.inr (.inl acc)) → px_lg lv 3 = some (.inl (nI i)) → px_lg lv 5 = some (.inl x5) → t_X d 244 75 lv [] h P) : ∀ (m z : Nat) (w x5 : Int32) (lv : List (Nat × pv)), z + m = 7 → 0 ≤ w.toInt ∧ w.toInt ≤ 7 → px_lg lv 0 = some (.inr (.inr (some 196))) → px_lg lv 1 = some (.inr (.inl acc)) → px_lg lv 3 = some (.inl (nI i)) → px_lg lv 4 = some (.inl w) → px_lg lv 5 = some (.inl x5) → px_lg lv 6 = some (.inl (nI z)) → t_X d 244 19 lv [] h P := by
  intro m
  induction m with
  | zero =>
    intro z w x5 lv hz hw7 l0 l1 l3 l4 l5 l6
    have hlt : ¬ nI z < (Int8.ofInt (7)).toInt32 := by
      rw [show z = 7 by omega]
      decide +kernel
    refine t_0 qy_19 rfl (ld_i l6) ?_
    refine t_0 qy_21 rfl rfl ?_
    refine t_1 qy_23 rfl (pc_ge_t (pc := 23) (by decide) hlt) ?_
    exact hC lv x5 l0 l1 l3 l5
  | succ m ih =>
    intro z w x5 lv hz hw7 l0 l1 l3 l4 l5 l6
    have hlt : nI z < (Int8.ofInt (7)).toInt32 := by
      have : ∀ j, j < 7 → nI j < (Int8.ofInt (7)).toInt32 := by decide +kernel
      exact this z (by omega)
    have ht := gI_r (r := 230) hG el_196 (Nat.le_of_ble_eq_true rfl) (y := 56) rfl eg_f56
    have hw := gI_r (r := 231) hG el_196 (Nat.le_of_ble_eq_true rfl) (y := 57) rfl eg_f57
    have hcl : ¬ (nI z < 0 ∨ 7 ≤ (nI z).toNatClampNeg) := e_clamp (by rw [nI_toInt (by omega)]; omega) (by rw [nI_toInt (by omega)]; omega)
    have hzz : (nI z).toNatClampNeg = z := by
      show (nI z).toInt.toNat = z
      rw [nI_toInt (by omega)]
      omega
    have hrz := hrow (nI z).toNatClampNeg (by rw [hzz]; omega)
    have hcr : ¬ (h.2.2.2.1 231 (nI z).toNatClampNeg < 0 ∨ 8 ≤ (h.2.2.2.1 231 (nI z).toNatClampNeg).toNatClampNeg) := e_clamp (by omega) (by omega)
    refine t_0 qy_19 rfl (ld_i l6) ?_
    refine t_0 qy_21 rfl rfl ?_
    refine t_1 qy_23 rfl (pc_ge_f (pc := 23) (by decide) hlt) ?_
    show t_X d 244 26 lv [] h P
    refine t_0 qy_26 rfl (ld_a l0) ?_
    refine t_0 qy_27 rfl (pget el_196 (pFi rfl)) ?_
    refine t_0 qy_30 rfl (ld_i l4) ?_
    refine t_3 qy_32 rfl (ar := ([.inl (h.1 196 61), .inl w], [])) (pcal_s ⟨Or.inl rfl, rfl, Nat.le_of_ble_eq_true rfl⟩) ⟨by omega, Nat.le_of_ble_eq_true rfl, Nat.le_of_ble_eq_true rfl, rfl⟩ ?_
    refine has_run (fun _ => ?_) (fun _ => ?_)
    · show t_X d 244 35 lv [.inl (Int32.ofInt 1)] h P
      refine t_1 qy_35 rfl (pb_ne_t (pc := 35) (by decide) i1_n) ?_
      exact hC lv x5 l0 l1 l3 l5
    · show t_X d 244 35 lv [.inl (Int32.ofInt 0)] h P
      refine t_1 qy_35 rfl (pb_ne_f (pc := 35) (by decide) i0_0) ?_
      show t_X d 244 38 lv [] h P
      refine t_0 qy_38 rfl (ld_i l5) ?_
      refine t_0 qy_40 rfl (ld_a l0) ?_
      refine t_0 qy_41 rfl (pget el_196 ht) ?_
      refine t_0 qy_44 rfl (ld_a l0) ?_
      refine t_0 qy_45 rfl (pget el_196 hw) ?_
      refine t_0 qy_48 rfl (ld_i l6) ?_
      refine t_0 qy_50 rfl (piald (by decide) el_231 hcl) ?_
      refine t_0 qy_51 rfl (piald (by decide) el_230 hcr) ?_
      refine t_0 qy_52 rfl rfl ?_
      refine t_2 qy_53 rfl (w := (px_s1 lv 5 (.inl ((x5) + (h.2.2.2.1 230 (h.2.2.2.1 231 (nI z).toNatClampNeg).toNatClampNeg))), [])) rfl ?_
      replace l0 : px_lg (px_s1 lv 5 (.inl ((x5) + (h.2.2.2.1 230 (h.2.2.2.1 231 (nI z).toNatClampNeg).toNatClampNeg)))) 0 = some (.inr (.inr (some 196))) := s1_ne (by decide) (fun _ => rfl) l0
      replace l1 : px_lg (px_s1 lv 5 (.inl ((x5) + (h.2.2.2.1 230 (h.2.2.2.1 231 (nI z).toNatClampNeg).toNatClampNeg)))) 1 = some (.inr (.inl (acc))) := s1_ne (by decide) (fun z => absurd z (by decide)) l1
      replace l3 : px_lg (px_s1 lv 5 (.inl ((x5) + (h.2.2.2.1 230 (h.2.2.2.1 231 (nI z).toNatClampNeg).toNatClampNeg)))) 3 = some (.inl (nI i)) := s1_ne (by decide) (fun _ => rfl) l3
      replace l4 : px_lg (px_s1 lv 5 (.inl ((x5) + (h.2.2.2.1 230 (h.2.2.2.1 231 (nI z).toNatClampNeg).toNatClampNeg)))) 4 = some (.inl (w)) := s1_ne (by decide) (fun _ => rfl) l4
      replace l6 : px_lg (px_s1 lv 5 (.inl ((x5) + (h.2.2.2.1 230 (h.2.2.2.1 231 (nI z).toNatClampNeg).toNatClampNeg)))) 6 = some (.inl (nI z)) := s1_ne (by decide) (fun _ => rfl) l6
      have l5 : px_lg (px_s1 lv 5 (.inl ((x5) + (h.2.2.2.1 230 (h.2.2.2.1 231 (nI z).toNatClampNeg).toNatClampNeg)))) 5 = some (.inl ((x5) + (h.2.2.2.1 230 (h.2.2.2.1 231 (nI z).toNatClampNeg).toNatClampNeg))) := s1_eq
      generalize px_s1 lv 5 (.inl ((x5) + (h.2.2.2.1 230 (h.2.2.2.1 231 (nI z).toNatClampNeg).toNatClampNeg))) = lv1 at l0 l1 l3 l4 l6 l5 ⊢
      show t_X d 244 55 lv1 [] h P
      refine t_0 qy_55 rfl (ld_i l4) ?_
      refine t_0 qy_57 rfl (ld_a l0) ?_
      refine t_0 qy_58 rfl (pget el_196 hw) ?_
      refine t_0 qy_61 rfl (ld_i l6) ?_
      refine t_0 qy_63 rfl (piald (by decide) el_231 hcl) ?_
      refine t_3 qy_64 rfl (ar := ([.inl w, .inl (h.2.2.2.1 231 (nI z).toNatClampNeg)], [])) (pcal_s ⟨Or.inl rfl, rfl, Nat.le_of_ble_eq_true rfl⟩) ⟨by omega, Nat.le_of_ble_eq_true rfl, Nat.le_of_ble_eq_true rfl, rfl⟩ ?_
      refine both_run hw7 ⟨by omega, hrz.2⟩ (fun r r0 r7 => ?_)
      show t_X d 244 67 lv1 [.inl r] h P
      refine t_2 qy_67 rfl (w := (px_s1 lv1 4 (.inl (r)), [])) rfl ?_
      replace l0 : px_lg (px_s1 lv1 4 (.inl (r))) 0 = some (.inr (.inr (some 196))) := s1_ne (by decide) (fun _ => rfl) l0
      replace l1 : px_lg (px_s1 lv1 4 (.inl (r))) 1 = some (.inr (.inl (acc))) := s1_ne (by decide) (fun z => absurd z (by decide)) l1
      replace l3 : px_lg (px_s1 lv1 4 (.inl (r))) 3 = some (.inl (nI i)) := s1_ne (by decide) (fun _ => rfl) l3
      replace l6 : px_lg (px_s1 lv1 4 (.inl (r))) 6 = some (.inl (nI z)) := s1_ne (by decide) (fun _ => rfl) l6
      replace l5 : px_lg (px_s1 lv1 4 (.inl (r))) 5 = some (.inl ((x5) + (h.2.2.2.1 230 (h.2.2.2.1 231 (nI z).toNatClampNeg).toNatClampNeg))) := s1_ne (by decide) (fun _ => rfl) l5
      have l4 : px_lg (px_s1 lv1 4 (.inl (r))) 4 = some (.inl (r)) := s1_eq
      generalize px_s1 lv1 4 (.inl (r)) = lv2 at l0 l1 l3 l6 l5 l4 ⊢
      show t_X d 244 69 lv2 [] h P
      refine t_2 qy_69 rfl (w := (px_s1 lv2 6 (.inl ((nI z) + Int32.ofInt (1))), [])) (pinc l6 (by decide)) ?_
      replace l0 : px_lg (px_s1 lv2 6 (.inl ((nI z) + Int32.ofInt (1)))) 0 = some (.inr (.inr (some 196))) := s1_ne (by decide) (fun _ => rfl) l0
      replace l1 : px_lg (px_s1 lv2 6 (.inl ((nI z) + Int32.ofInt (1)))) 1 = some (.inr (.inl (acc))) := s1_ne (by decide) (fun z => absurd z (by decide)) l1
      replace l3 : px_lg (px_s1 lv2 6 (.inl ((nI z) + Int32.ofInt (1)))) 3 = some (.inl (nI i)) := s1_ne (by decide) (fun _ => rfl) l3
      replace l5 : px_lg (px_s1 lv2 6 (.inl ((nI z) + Int32.ofInt (1)))) 5 = some (.inl ((x5) + (h.2.2.2.1 230 (h.2.2.2.1 231 (nI z).toNatClampNeg).toNatClampNeg))) := s1_ne (by decide) (fun _ => rfl) l5
      replace l4 : px_lg (px_s1 lv2 6 (.inl ((nI z) + Int32.ofInt (1)))) 4 = some (.inl (r)) := s1_ne (by decide) (fun _ => rfl) l4
      have l6 : px_lg (px_s1 lv2 6 (.inl ((nI z) + Int32.ofInt (1)))) 6 = some (.inl ((nI z) + Int32.ofInt (1))) := s1_eq
      generalize px_s1 lv2 6 (.inl ((nI z) + Int32.ofInt (1))) = lv3 at l0 l1 l3 l5 l4 l6 ⊢
      show t_X d 244 72 lv3 [] h P
      refine t_1 qy_72 rfl (pb_goto (pc := 72) (by decide)) ?_
      show t_X d 244 19 lv3 [] h P
      rw [j_inc (by omega)] at l6
      exact ih (z + 1) r _ _ (by omega) ⟨r0, r7⟩ l0 l1 l3 l4 l5 l6
set_option maxHeartbeats 4000000 in
theorem sb_out {d : Nat} (hd : 2 ≤ d) {h : pH} (hG : g_I eG h) (hrow : ∀ j, j < 7 → 1 ≤ (h.2.2.2.1 231 j).toInt ∧ (h.2.2.2.1 231 j).toInt ≤ 7) {P : Option pv × pH → Prop} (hP : ∀ x : Int64, P (some (.inr (.inl x)), h)) : ∀ (m i : Nat) (acc : Int64) (lv : List (Nat × pv)), i + m = 8 → px_lg lv 0 = some (.inr (.inr (some 196))) → px_lg lv 1 = some (.inr (.inl acc)) → px_lg lv 3 = some (.inl (nI i)) → t_X d 244 4 lv [] h P := by
  intro m
  induction m with
  | zero =>
    intro i acc lv hi l0 l1 l3
    have hlt : ¬ nI i < (Int8.ofInt (8)).toInt32 := by
      rw [show i = 8 by omega]
      decide +kernel
    refine t_0 qy_4 rfl (ld_i l3) ?_
    refine t_0 qy_5 rfl rfl ?_
    refine t_1 qy_7 rfl (pc_ge_t (pc := 7) (by decide) hlt) ?_
    refine t_0 qy_95 rfl (ld_l l1) ?_
    refine t_5 qy_96 rfl rfl ?_
    exact hP acc
  | succ m ih =>
    intro i acc lv hi l0 l1 l3
    have hlt : nI i < (Int8.ofInt (8)).toInt32 := by
      have : ∀ j, j < 8 → nI j < (Int8.ofInt (8)).toInt32 := by decide +kernel
      exact this i (by omega)
    have hh := gI_r (r := 229) hG el_196 (Nat.le_of_ble_eq_true rfl) (y := 55) rfl eg_f55
    have hcl : ¬ (nI i < 0 ∨ 8 ≤ (nI i).toNatClampNeg) := e_clamp (by rw [nI_toInt (by omega)]; omega) (by rw [nI_toInt (by omega)]; omega)
    refine t_0 qy_4 rfl (ld_i l3) ?_
    refine t_0 qy_5 rfl rfl ?_
    refine t_1 qy_7 rfl (pc_ge_f (pc := 7) (by decide) hlt) ?_
    show t_X d 244 10 lv [] h P
    refine t_0 qy_10 rfl (ld_i l3) ?_
    refine t_2 qy_11 rfl (w := (px_s1 lv 4 (.inl (nI i)), [])) rfl ?_
    replace l0 : px_lg (px_s1 lv 4 (.inl (nI i))) 0 = some (.inr (.inr (some 196))) := s1_ne (by decide) (fun _ => rfl) l0
    replace l1 : px_lg (px_s1 lv 4 (.inl (nI i))) 1 = some (.inr (.inl (acc))) := s1_ne (by decide) (fun z => absurd z (by decide)) l1
    replace l3 : px_lg (px_s1 lv 4 (.inl (nI i))) 3 = some (.inl (nI i)) := s1_ne (by decide) (fun _ => rfl) l3
    have l4 : px_lg (px_s1 lv 4 (.inl (nI i))) 4 = some (.inl (nI i)) := s1_eq
    generalize px_s1 lv 4 (.inl (nI i)) = lv1 at l0 l1 l3 l4 ⊢
    show t_X d 244 13 lv1 [] h P
    refine t_0 qy_13 rfl rfl ?_
    refine t_2 qy_14 rfl (w := (px_s1 lv1 5 (.inl (Int32.ofInt (0))), [])) rfl ?_
    replace l0 : px_lg (px_s1 lv1 5 (.inl (Int32.ofInt (0)))) 0 = some (.inr (.inr (some 196))) := s1_ne (by decide) (fun _ => rfl) l0
    replace l1 : px_lg (px_s1 lv1 5 (.inl (Int32.ofInt (0)))) 1 = some (.inr (.inl (acc))) := s1_ne (by decide) (fun z => absurd z (by decide)) l1
    replace l3 : px_lg (px_s1 lv1 5 (.inl (Int32.ofInt (0)))) 3 = some (.inl (nI i)) := s1_ne (by decide) (fun _ => rfl) l3
    replace l4 : px_lg (px_s1 lv1 5 (.inl (Int32.ofInt (0)))) 4 = some (.inl (nI i)) := s1_ne (by decide) (fun _ => rfl) l4
    have l5 : px_lg (px_s1 lv1 5 (.inl (Int32.ofInt (0)))) 5 = some (.inl (Int32.ofInt (0))) := s1_eq
    generalize px_s1 lv1 5 (.inl (Int32.ofInt (0))) = lv2 at l0 l1 l3 l4 l5 ⊢
    show t_X d 244 16 lv2 [] h P
    refine t_0 qy_16 rfl rfl ?_
    refine t_2 qy_17 rfl (w := (px_s1 lv2 6 (.inl (Int32.ofInt (0))), [])) rfl ?_
    replace l0 : px_lg (px_s1 lv2 6 (.inl (Int32.ofInt (0)))) 0 = some (.inr (.inr (some 196))) := s1_ne (by decide) (fun _ => rfl) l0
    replace l1 : px_lg (px_s1 lv2 6 (.inl (Int32.ofInt (0)))) 1 = some (.inr (.inl (acc))) := s1_ne (by decide) (fun z => absurd z (by decide)) l1
    replace l3 : px_lg (px_s1 lv2 6 (.inl (Int32.ofInt (0)))) 3 = some (.inl (nI i)) := s1_ne (by decide) (fun _ => rfl) l3
    replace l4 : px_lg (px_s1 lv2 6 (.inl (Int32.ofInt (0)))) 4 = some (.inl (nI i)) := s1_ne (by decide) (fun _ => rfl) l4
    replace l5 : px_lg (px_s1 lv2 6 (.inl (Int32.ofInt (0)))) 5 = some (.inl (Int32.ofInt (0))) := s1_ne (by decide) (fun _ => rfl) l5
    have l6 : px_lg (px_s1 lv2 6 (.inl (Int32.ofInt (0)))) 6 = some (.inl (Int32.ofInt (0))) := s1_eq
    generalize px_s1 lv2 6 (.inl (Int32.ofInt (0))) = lv3 at l0 l1 l3 l4 l5 l6 ⊢
    show t_X d 244 19 lv3 [] h P
    refine sb_in hd hG hrow (i := i) (acc := acc) (fun lvx x5 l0 l1 l3 l5 => ?_) 7 0 (nI i) _ _ rfl ⟨by rw [nI_toInt (by omega)]; omega, by rw [nI_toInt (by omega)]; omega⟩ l0 l1 l3 l4 l5 l6
    refine t_0 qy_75 rfl (ld_l l1) ?_
    refine t_0 qy_76 rfl (ld_a l0) ?_
    refine t_0 qy_77 rfl (pget el_196 hh) ?_
    refine t_0 qy_80 rfl (ld_i l3) ?_
    refine t_0 qy_81 rfl (piald (by decide) el_229 hcl) ?_
    refine t_0 qy_82 rfl rfl ?_
    refine t_0 qy_83 rfl (ld_i l5) ?_
    refine t_0 qy_85 rfl rfl ?_
    refine t_0 qy_86 rfl rfl ?_
    refine t_0 qy_87 rfl rfl ?_
    refine t_2 qy_88 rfl (w := (px_s2 lvx 1 (.inr (.inl ((acc) + ((Int32.toInt64 (h.2.2.2.1 229 (nI i).toNatClampNeg)) * (Int32.toInt64 (x5)))))), [])) rfl ?_
    replace l0 : px_lg (px_s2 lvx 1 (.inr (.inl ((acc) + ((Int32.toInt64 (h.2.2.2.1 229 (nI i).toNatClampNeg)) * (Int32.toInt64 (x5))))))) 0 = some (.inr (.inr (some 196))) := s2_ne (by decide) (fun _ => rfl) l0
    replace l3 : px_lg (px_s2 lvx 1 (.inr (.inl ((acc) + ((Int32.toInt64 (h.2.2.2.1 229 (nI i).toNatClampNeg)) * (Int32.toInt64 (x5))))))) 3 = some (.inl (nI i)) := s2_ne (by decide) (fun _ => rfl) l3
    replace l5 : px_lg (px_s2 lvx 1 (.inr (.inl ((acc) + ((Int32.toInt64 (h.2.2.2.1 229 (nI i).toNatClampNeg)) * (Int32.toInt64 (x5))))))) 5 = some (.inl (x5)) := s2_ne (by decide) (fun _ => rfl) l5
    have l1 : px_lg (px_s2 lvx 1 (.inr (.inl ((acc) + ((Int32.toInt64 (h.2.2.2.1 229 (nI i).toNatClampNeg)) * (Int32.toInt64 (x5))))))) 1 = some (.inr (.inl ((acc) + ((Int32.toInt64 (h.2.2.2.1 229 (nI i).toNatClampNeg)) * (Int32.toInt64 (x5)))))) := s2_eq
    generalize px_s2 lvx 1 (.inr (.inl ((acc) + ((Int32.toInt64 (h.2.2.2.1 229 (nI i).toNatClampNeg)) * (Int32.toInt64 (x5)))))) = lv21 at l0 l3 l5 l1 ⊢
    show t_X d 244 89 lv21 [] h P
    refine t_2 qy_89 rfl (w := (px_s1 lv21 3 (.inl ((nI i) + Int32.ofInt (1))), [])) (pinc l3 (by decide)) ?_
    replace l0 : px_lg (px_s1 lv21 3 (.inl ((nI i) + Int32.ofInt (1)))) 0 = some (.inr (.inr (some 196))) := s1_ne (by decide) (fun _ => rfl) l0
    replace l5 : px_lg (px_s1 lv21 3 (.inl ((nI i) + Int32.ofInt (1)))) 5 = some (.inl (x5)) := s1_ne (by decide) (fun _ => rfl) l5
    replace l1 : px_lg (px_s1 lv21 3 (.inl ((nI i) + Int32.ofInt (1)))) 1 = some (.inr (.inl ((acc) + ((Int32.toInt64 (h.2.2.2.1 229 (nI i).toNatClampNeg)) * (Int32.toInt64 (x5)))))) := s1_ne (by decide) (fun z => absurd z (by decide)) l1
    have l3 : px_lg (px_s1 lv21 3 (.inl ((nI i) + Int32.ofInt (1)))) 3 = some (.inl ((nI i) + Int32.ofInt (1))) := s1_eq
    generalize px_s1 lv21 3 (.inl ((nI i) + Int32.ofInt (1))) = lv22 at l0 l5 l1 l3 ⊢
    show t_X d 244 92 lv22 [] h P
    refine t_1 qy_92 rfl (pb_goto (pc := 92) (by decide)) ?_
    show t_X d 244 4 lv22 [] h P
    rw [j_inc (by omega)] at l3
    exact ih (i + 1) _ _ (by omega) l0 l1 l3
set_option maxHeartbeats 2000000 in
/-- secondsBy, where rowNow holds a row of 1 to 7 -/
theorem sb_run {d : Nat} (hd : 2 ≤ d) {h : pH} {lv : List (Nat × pv)} (hG : g_I eG h) (hrow : ∀ j, j < 7 → 1 ≤ (h.2.2.2.1 231 j).toInt ∧ (h.2.2.2.1 231 j).toInt ≤ 7) {P : Option pv × pH → Prop} (hP : ∀ x : Int64, P (some (.inr (.inl x)), h)) (l0 : px_lg lv 0 = some (.inr (.inr (some 196)))) : t_X d 244 0 lv [] h P := by
  refine t_0 qy_0 rfl rfl ?_
  refine t_2 qy_1 rfl (w := (px_s2 lv 1 (.inr (.inl (Int64.ofNat 0))), [])) rfl ?_
  replace l0 : px_lg (px_s2 lv 1 (.inr (.inl (Int64.ofNat 0)))) 0 = some (.inr (.inr (some 196))) := s2_ne (by decide) (fun _ => rfl) l0
  have l1 : px_lg (px_s2 lv 1 (.inr (.inl (Int64.ofNat 0)))) 1 = some (.inr (.inl (Int64.ofNat 0))) := s2_eq
  generalize px_s2 lv 1 (.inr (.inl (Int64.ofNat 0))) = lv1 at l0 l1 ⊢
  show t_X d 244 2 lv1 [] h P
  refine t_0 qy_2 rfl rfl ?_
  refine t_2 qy_3 rfl (w := (px_s1 lv1 3 (.inl (Int32.ofInt (0))), [])) rfl ?_
  replace l0 : px_lg (px_s1 lv1 3 (.inl (Int32.ofInt (0)))) 0 = some (.inr (.inr (some 196))) := s1_ne (by decide) (fun _ => rfl) l0
  replace l1 : px_lg (px_s1 lv1 3 (.inl (Int32.ofInt (0)))) 1 = some (.inr (.inl (Int64.ofNat 0))) := s1_ne (by decide) (fun z => absurd z (by decide)) l1
  have l3 : px_lg (px_s1 lv1 3 (.inl (Int32.ofInt (0)))) 3 = some (.inl (Int32.ofInt (0))) := s1_eq
  generalize px_s1 lv1 3 (.inl (Int32.ofInt (0))) = lv2 at l0 l1 l3 ⊢
  show t_X d 244 4 lv2 [] h P
  exact sb_out hd hG hrow hP 8 0 _ _ rfl l0 l1 l3
end
section
/-! by hand: copies, notesRow (printed in part by wip/e2/nr.py) -/
theorem qp_0 : xe_look (xc 179) 0 = some (.iconst 0, 1, 0, 0, 0) := by decide +kernel
theorem qp_1 : xe_look (xc 179) 1 = some (.istore_n 3, 1, 0, 0, 0) := by decide +kernel
theorem qp_2 : xe_look (xc 179) 2 = some (.iload_n 3, 1, 0, 0, 0) := by decide +kernel
theorem qp_3 : xe_look (xc 179) 3 = some (.iload_n 2, 1, 0, 0, 0) := by decide +kernel
theorem qp_4 : xe_look (xc 179) 4 = some (.if_icmp .ge 15, 3, 0, 0, 0) := by decide +kernel
theorem qp_7 : xe_look (xc 179) 7 = some (.aload_n 1, 1, 0, 0, 0) := by decide +kernel
theorem qp_8 : xe_look (xc 179) 8 = some (.iload_n 3, 1, 0, 0, 0) := by decide +kernel
theorem qp_9 : xe_look (xc 179) 9 = some (.aload_n 0, 1, 0, 0, 0) := by decide +kernel
theorem qp_10 : xe_look (xc 179) 10 = some (.iload_n 3, 1, 0, 0, 0) := by decide +kernel
theorem qp_11 : xe_look (xc 179) 11 = some (.iaload, 1, 0, 0, 0) := by decide +kernel
theorem qp_12 : xe_look (xc 179) 12 = some (.iastore, 1, 0, 0, 0) := by decide +kernel
theorem qp_13 : xe_look (xc 179) 13 = some (.iinc 3 1, 3, 0, 0, 0) := by decide +kernel
theorem qp_16 : xe_look (xc 179) 16 = some (.goto (-14), 3, 0, 0, 0) := by decide +kernel
theorem qp_19 : xe_look (xc 179) 19 = some (.return_, 1, 0, 0, 0) := by decide +kernel
theorem qn_0 : xe_look (xc 224) 0 = some (.aload_n 0, 1, 0, 0, 0) := by decide +kernel
theorem qn_1 : xe_look (xc 224) 1 = some (.invokevirtual 456, 3, 0, 244, 1249) := by decide +kernel
theorem qn_4 : xe_look (xc 224) 4 = some (.lstore_n 1, 1, 0, 0, 0) := by decide +kernel
theorem qn_5 : xe_look (xc 224) 5 = some (.aload_n 0, 1, 0, 0, 0) := by decide +kernel
theorem qn_6 : xe_look (xc 224) 6 = some (.getfield 449, 3, 12, 62, 1239) := by decide +kernel
theorem qn_9 : xe_look (xc 224) 9 = some (.lconst 0, 1, 0, 0, 0) := by decide +kernel
theorem qn_10 : xe_look (xc 224) 10 = some (.lcmp, 1, 0, 0, 0) := by decide +kernel
theorem qn_11 : xe_look (xc 224) 11 = some (.ifCond .lt 13, 3, 0, 0, 0) := by decide +kernel
theorem qn_14 : xe_look (xc 224) 14 = some (.lload_n 1, 1, 0, 0, 0) := by decide +kernel
theorem qn_15 : xe_look (xc 224) 15 = some (.aload_n 0, 1, 0, 0, 0) := by decide +kernel
theorem qn_16 : xe_look (xc 224) 16 = some (.getfield 449, 3, 12, 62, 1239) := by decide +kernel
theorem qn_19 : xe_look (xc 224) 19 = some (.lcmp, 1, 0, 0, 0) := by decide +kernel
theorem qn_20 : xe_look (xc 224) 20 = some (.ifCond .lt 4, 3, 0, 0, 0) := by decide +kernel
theorem qn_23 : xe_look (xc 224) 23 = some (.return_, 1, 0, 0, 0) := by decide +kernel
theorem qn_24 : xe_look (xc 224) 24 = some (.aload_n 0, 1, 0, 0, 0) := by decide +kernel
theorem qn_25 : xe_look (xc 224) 25 = some (.lload_n 1, 1, 0, 0, 0) := by decide +kernel
theorem qn_26 : xe_look (xc 224) 26 = some (.putfield 449, 3, 12, 62, 1239) := by decide +kernel
theorem qn_29 : xe_look (xc 224) 29 = some (.aload_n 0, 1, 0, 0, 0) := by decide +kernel
theorem qn_30 : xe_look (xc 224) 30 = some (.getfield 113, 3, 12, 57, 1200) := by decide +kernel
theorem qn_33 : xe_look (xc 224) 33 = some (.aload_n 0, 1, 0, 0, 0) := by decide +kernel
theorem qn_34 : xe_look (xc 224) 34 = some (.getfield 116, 3, 12, 58, 1201) := by decide +kernel
theorem qn_37 : xe_look (xc 224) 37 = some (.bipush 7, 2, 0, 0, 0) := by decide +kernel
theorem qn_39 : xe_look (xc 224) 39 = some (.invokestatic 292, 3, 0, 179, 1228) := by decide +kernel
theorem qn_42 : xe_look (xc 224) 42 = some (.return_, 1, 0, 0, 0) := by decide +kernel
theorem el_232 : eL[232]? = some (1, 7) := by decide +kernel
theorem eg_a232 : eG (cn 232) = ((-2147483648), 2147483647, []) := by decide +kernel
theorem ok_full32 (x : Int32) : ok_v x.toInt ((-2147483648), 2147483647, []) := ⟨by have := x.le_toInt; show -2147483648 ≤ x.toInt; omega, by have := x.toInt_lt; show x.toInt ≤ 2147483647; omega, Or.inl rfl⟩
theorem ok_full64 (x : Int64) : ok_v x.toInt ((-9223372036854775808), 9223372036854775807, []) := ⟨i64_lo x, i64_hi x, Or.inl rfl⟩
/-- like h but for one row and longs of fields -/
def Kp (h g : pH) : Prop := g.1 = h.1 ∧ ∀ k, k ≠ 232 → g.2.2.2.1 k = h.2.2.2.1 k
set_option maxHeartbeats 4000000 in
theorem cp_loop {d : Nat} {W : Nat} {h0 h : pH} (hW : W.testBit (cn 232) = true) {P : Option pv × pH → Prop} (hP : ∀ g : pH, J_ W h0 g → Kp h g → P (none, g)) : ∀ (m j : Nat) (g : pH) (lv : List (Nat × pv)), j + m = 7 → J_ W h0 g → Kp h g → px_lg lv 0 = some (.inr (.inr (some 231))) → px_lg lv 1 = some (.inr (.inr (some 232))) → px_lg lv 2 = some (.inl (Int8.ofInt (7)).toInt32) → px_lg lv 3 = some (.inl (nI j)) → t_X d 179 2 lv [] g P := by
  intro m
  induction m with
  | zero =>
    intro j g lv hj hJ hK l0 l1 l2 l3
    have hlt : ¬ nI j < (Int8.ofInt (7)).toInt32 := by
      rw [show j = 7 by omega]
      decide +kernel
    refine t_0 qp_2 rfl (ld_i l3) ?_
    refine t_0 qp_3 rfl (ld_i l2) ?_
    refine t_1 qp_4 rfl (pc_ge_t (pc := 4) (by decide) hlt) ?_
    refine t_5 qp_19 rfl rfl ?_
    exact hP g hJ hK
  | succ m ih =>
    intro j g lv hj hJ hK l0 l1 l2 l3
    have hlt : nI j < (Int8.ofInt (7)).toInt32 := by
      have : ∀ j, j < 7 → nI j < (Int8.ofInt (7)).toInt32 := by decide +kernel
      exact this j (by omega)
    have hcl : ¬ (nI j < 0 ∨ 7 ≤ (nI j).toNatClampNeg) := e_clamp (by rw [nI_toInt (by omega)]; omega) (by rw [nI_toInt (by omega)]; omega)
    refine t_0 qp_2 rfl (ld_i l3) ?_
    refine t_0 qp_3 rfl (ld_i l2) ?_
    refine t_1 qp_4 rfl (pc_ge_f (pc := 4) (by decide) hlt) ?_
    show t_X d 179 7 lv [] g P
    refine t_0 qp_7 rfl (ld_a l1) ?_
    refine t_0 qp_8 rfl (ld_i l3) ?_
    refine t_0 qp_9 rfl (ld_a l0) ?_
    refine t_0 qp_10 rfl (ld_i l3) ?_
    refine t_0 qp_11 rfl (piald (by decide) el_231 hcl) ?_
    refine t_4 qp_12 rfl (piast el_232 hcl) ?_
    show t_X d 179 13 lv [] (g.1, g.2.1, g.2.2.1, pu g.2.2.2.1 232 (nI j).toNatClampNeg (g.2.2.2.1 231 (nI j).toNatClampNeg), g.2.2.2.2) P
    refine t_2 qp_13 rfl (w := (px_s1 lv 3 (.inl ((nI j) + Int32.ofInt (1))), [])) (pinc l3 (by decide)) ?_
    replace l0 : px_lg (px_s1 lv 3 (.inl ((nI j) + Int32.ofInt (1)))) 0 = some (.inr (.inr (some 231))) := s1_ne (by decide) (fun _ => rfl) l0
    replace l1 : px_lg (px_s1 lv 3 (.inl ((nI j) + Int32.ofInt (1)))) 1 = some (.inr (.inr (some 232))) := s1_ne (by decide) (fun _ => rfl) l1
    replace l2 : px_lg (px_s1 lv 3 (.inl ((nI j) + Int32.ofInt (1)))) 2 = some (.inl ((Int8.ofInt (7)).toInt32)) := s1_ne (by decide) (fun _ => rfl) l2
    have l3 : px_lg (px_s1 lv 3 (.inl ((nI j) + Int32.ofInt (1)))) 3 = some (.inl ((nI j) + Int32.ofInt (1))) := s1_eq
    generalize px_s1 lv 3 (.inl ((nI j) + Int32.ofInt (1))) = lv1 at l0 l1 l2 l3 ⊢
    show t_X d 179 16 lv1 [] (g.1, g.2.1, g.2.2.1, pu g.2.2.2.1 232 (nI j).toNatClampNeg (g.2.2.2.1 231 (nI j).toNatClampNeg), g.2.2.2.2) P
    refine t_1 qp_16 rfl (pb_goto (pc := 16) (by decide)) ?_
    show t_X d 179 2 lv1 [] (g.1, g.2.1, g.2.2.1, pu g.2.2.2.1 232 (nI j).toNatClampNeg (g.2.2.2.1 231 (nI j).toNatClampNeg), g.2.2.2.2) P
    rw [j_inc (by omega)] at l3
    refine ih (j + 1) _ _ (by omega) (J_ia hJ el_232 hW (by rw [eg_a232]; exact ok_full32 _)) ⟨hK.1, fun k hk => ?_⟩ l0 l1 l2 l3
    rw [← hK.2 k hk]
    exact pu_ne _ _ hk
theorem pFl {h : pH} {x k y : Nat} (ht : xk_ty x y = .long) : pF h x k y = .inr (.inl (h.2.1 k y)) := by
  unfold pF
  rw [ht]
theorem pputl {d i x y k : Nat} {h : pH} {r : List pv} {n : Int64} (hk : eL[k]? = some (0, x)) (ht : xk_ty x y = .long) : px_wf (.putfield i) eL d x y (.inr (.inl n) :: .inr (.inr (some k)) :: r) h = some (r, (h.1, pu h.2.1 k y n, h.2.2)) := by
  show px_put eL h x y (.inr (.inl n) :: .inr (.inr (some k)) :: r) = _
  unfold px_put
  dsimp only
  rw [if_pos hk, ht]
theorem J_putl {W : Nat} {h0 h : pH} {k x y : Nat} {n : Int64} (hj : J_ W h0 h) (hk : eL[k]? = some (0, x)) (ht : xk_ty x y = .long) (hW : W.testBit (cn k + y) = true) (hv : ok_v n.toInt (eG (cn k + y))) : J_ W h0 (h.1, pu h.2.1 k y n, h.2.2) := by
  have hw : w_f h (h.1, pu h.2.1 k y n, h.2.2) k y := ⟨fun k' y' hn => ⟨rfl, if_neg hn, rfl⟩, rfl⟩
  refine ⟨g_I_f hj.1 hw hk ?_, w_f_M hw hj.2 hW⟩
  rw [pFl ht]
  show ok_v (pu h.2.1 k y n k y).toInt _
  rw [pu_at]
  exact hv
theorem pcal_v0 {i y k : Nat} {r : List pv} (h1 : (xm y).2.2.2.2.2.2.2 = 1) (hn : (xm y).2.2.2.2.2.1 = 0) (hk : eL[k]? = some (0, (xm y).2.2.2.2.2.2.1)) : px_cal eL (.invokevirtual i) 0 y (.inr (.inr (some k)) :: r) = some ([.inr (.inr (some k))], r) := by
  unfold px_cal
  dsimp only
  rw [if_pos ⟨rfl, h1, by rw [hn]; exact Nat.zero_le _⟩, hn]
  show (if eL[k]? = some (0, (xm y).2.2.2.2.2.2.1) then _ else _) = _
  rw [if_pos hk]
  rfl
theorem eg_f58 : (eG (cn 196 + 58)).2.2 = [233] := by decide +kernel
theorem eg_f62 : eG (cn 196 + 62) = ((-9223372036854775808), 9223372036854775807, []) := by decide +kernel
set_option maxHeartbeats 4000000 in
theorem nr_run {d : Nat} (hd : 3 ≤ d) {W : Nat} {h0 h : pH} {lv : List (Nat × pv)} (hJ : J_ W h0 h) (hW : W.testBit (cn 232) = true) (hW2 : W.testBit (cn 196 + 62) = true) (hrow : ∀ j, j < 7 → 1 ≤ (h.2.2.2.1 231 j).toInt ∧ (h.2.2.2.1 231 j).toInt ≤ 7) {P : Option pv × pH → Prop} (hP : ∀ g : pH, J_ W h0 g → Kp h g → P (none, g)) (l0 : px_lg lv 0 = some (.inr (.inr (some 196)))) : t_X d 224 0 lv [] h P := by
  refine t_0 qn_0 rfl (ld_a l0) ?_
  refine t_3 qn_1 rfl (ar := ([pvR 196], [])) (pcal_v0 rfl rfl el_196) ⟨by omega, Nat.le_of_ble_eq_true rfl, Nat.le_of_ble_eq_true rfl, rfl⟩ ?_
  refine sb_run (by omega) hJ.1 hrow (fun x => ?_) rfl
  show t_X d 224 4 lv [.inr (.inl x)] h P
  refine t_2 qn_4 rfl (w := (px_s2 lv 1 (.inr (.inl (x))), [])) rfl ?_
  replace l0 : px_lg (px_s2 lv 1 (.inr (.inl (x)))) 0 = some (.inr (.inr (some 196))) := s2_ne (by decide) (fun _ => rfl) l0
  have l1 : px_lg (px_s2 lv 1 (.inr (.inl (x)))) 1 = some (.inr (.inl (x))) := s2_eq
  generalize px_s2 lv 1 (.inr (.inl (x))) = lv1 at l0 l1 ⊢
  show t_X d 224 5 lv1 [] h P
  refine t_0 qn_5 rfl (ld_a l0) ?_
  refine t_0 qn_6 rfl (pget el_196 (pFl rfl)) ?_
  refine t_0 qn_9 rfl rfl ?_
  refine t_0 qn_10 rfl rfl ?_
  have put : t_X d 224 24 lv1 [] h P := by
    have hJ2 : J_ W h0 (h.1, pu h.2.1 196 62 x, h.2.2) := J_putl hJ el_196 rfl hW2 (by rw [eg_f62]; exact ok_full64 x)
    have hr1 : pF (h.1, pu h.2.1 196 62 x, h.2.2) 12 196 57 = .inr (.inr (some 231)) := gI_r hJ2.1 el_196 (Nat.le_of_ble_eq_true rfl) rfl eg_f57
    have hr2 : pF (h.1, pu h.2.1 196 62 x, h.2.2) 12 196 58 = .inr (.inr (some 232)) := gI_r hJ2.1 el_196 (Nat.le_of_ble_eq_true rfl) rfl eg_f58
    refine t_0 qn_24 rfl (ld_a l0) ?_
    refine t_0 qn_25 rfl (ld_l l1) ?_
    refine t_4 qn_26 rfl (pputl el_196 rfl) ?_
    show t_X d 224 29 lv1 [] (h.1, pu h.2.1 196 62 x, h.2.2) P
    refine t_0 qn_29 rfl (ld_a l0) ?_
    refine t_0 qn_30 rfl (pget el_196 hr1) ?_
    refine t_0 qn_33 rfl (ld_a l0) ?_
    refine t_0 qn_34 rfl (pget el_196 hr2) ?_
    refine t_0 qn_37 rfl rfl ?_
    refine t_3 qn_39 rfl (ar := ([pvR 231, pvR 232, .inl (Int8.ofInt (7)).toInt32], [])) (pcal_s ⟨Or.inl rfl, rfl, Nat.le_of_ble_eq_true rfl⟩) ⟨by omega, Nat.le_of_ble_eq_true rfl, Nat.le_of_ble_eq_true rfl, rfl⟩ ?_
    show t_X (d - 1) 179 0 [(0, pvR 231), (1, pvR 232), (2, .inl (Int8.ofInt (7)).toInt32)] [] (h.1, pu h.2.1 196 62 x, h.2.2) _
    have k0 : px_lg [(0, pvR 231), (1, pvR 232), (2, (.inl (Int8.ofInt (7)).toInt32 : pv))] 0 = some (.inr (.inr (some 231))) := rfl
    have k1 : px_lg [(0, pvR 231), (1, pvR 232), (2, (.inl (Int8.ofInt (7)).toInt32 : pv))] 1 = some (.inr (.inr (some 232))) := rfl
    have k2 : px_lg [(0, pvR 231), (1, pvR 232), (2, (.inl (Int8.ofInt (7)).toInt32 : pv))] 2 = some (.inl (Int8.ofInt (7)).toInt32) := rfl
    refine t_0 qp_0 rfl rfl ?_
    refine t_2 qp_1 rfl (w := (px_s1 [(0, pvR 231), (1, pvR 232), (2, .inl (Int8.ofInt (7)).toInt32)] 3 (.inl (Int32.ofInt 0)), [])) rfl ?_
    refine cp_loop (h := h) hW (fun g hg hk => ?_) 7 0 _ _ rfl hJ2 ⟨rfl, fun _ _ => rfl⟩ (s1_ne (by decide) (fun _ => rfl) k0) (s1_ne (by decide) (fun _ => rfl) k1) (s1_ne (by decide) (fun _ => rfl) k2) s1_eq
    show t_X d 224 42 lv1 [] g P
    refine t_5 qn_42 rfl rfl ?_
    exact hP g hg hk
  by_cases hq : lg_cmp (h.2.1 196 62) (Int64.ofNat 0) < 0
  · refine t_1 qn_11 rfl (pb_lt_t (pc := 11) (by decide) hq) ?_
    exact put
  · refine t_1 qn_11 rfl (pb_lt_f (pc := 11) (by decide) hq) ?_
    show t_X d 224 14 lv1 [] h P
    refine t_0 qn_14 rfl (ld_l l1) ?_
    refine t_0 qn_15 rfl (ld_a l0) ?_
    refine t_0 qn_16 rfl (pget el_196 (pFl rfl)) ?_
    refine t_0 qn_19 rfl rfl ?_
    by_cases hs : lg_cmp (x) (h.2.1 196 62) < 0
    · refine t_1 qn_20 rfl (pb_lt_t (pc := 20) (by decide) hs) ?_
      exact put
    · refine t_1 qn_20 rfl (pb_lt_f (pc := 20) (by decide) hs) ?_
      refine t_5 qn_23 rfl rfl ?_
      exact hP h hJ ⟨rfl, fun _ _ => rfl⟩
end
section
/-! by hand: laysTurns, its main loop (printed in part by wip/e2/lt.py) -/
theorem ql_0 : xe_look (xc 216) 0 = some (.iconst 1, 1, 0, 0, 0) := by decide +kernel
theorem ql_1 : xe_look (xc 216) 1 = some (.istore_n 2, 1, 0, 0, 0) := by decide +kernel
theorem ql_2 : xe_look (xc 216) 2 = some (.iload_n 2, 1, 0, 0, 0) := by decide +kernel
theorem ql_3 : xe_look (xc 216) 3 = some (.bipush 8, 2, 0, 0, 0) := by decide +kernel
theorem ql_5 : xe_look (xc 216) 5 = some (.if_icmp .ge 25, 3, 0, 0, 0) := by decide +kernel
theorem ql_8 : xe_look (xc 216) 8 = some (.aload_n 0, 1, 0, 0, 0) := by decide +kernel
theorem ql_9 : xe_look (xc 216) 9 = some (.getfield 110, 3, 12, 56, 1199) := by decide +kernel
theorem ql_12 : xe_look (xc 216) 12 = some (.iload_n 2, 1, 0, 0, 0) := by decide +kernel
theorem ql_13 : xe_look (xc 216) 13 = some (.aload_n 0, 1, 0, 0, 0) := by decide +kernel
theorem ql_14 : xe_look (xc 216) 14 = some (.iload_n 1, 1, 0, 0, 0) := by decide +kernel
theorem ql_15 : xe_look (xc 216) 15 = some (.iload_n 2, 1, 0, 0, 0) := by decide +kernel
theorem ql_16 : xe_look (xc 216) 16 = some (.bipush 116, 2, 0, 0, 0) := by decide +kernel
theorem ql_18 : xe_look (xc 216) 18 = some (.bipush 99, 2, 0, 0, 0) := by decide +kernel
theorem ql_20 : xe_look (xc 216) 20 = some (.invokevirtual 391, 3, 0, 169, 1234) := by decide +kernel
theorem ql_23 : xe_look (xc 216) 23 = some (.iastore, 1, 0, 0, 0) := by decide +kernel
theorem ql_24 : xe_look (xc 216) 24 = some (.iinc 2 1, 3, 0, 0, 0) := by decide +kernel
theorem ql_27 : xe_look (xc 216) 27 = some (.goto (-25), 3, 0, 0, 0) := by decide +kernel
theorem ql_30 : xe_look (xc 216) 30 = some (.aload_n 0, 1, 0, 0, 0) := by decide +kernel
theorem ql_31 : xe_look (xc 216) 31 = some (.aload_n 0, 1, 0, 0, 0) := by decide +kernel
theorem ql_32 : xe_look (xc 216) 32 = some (.iload_n 1, 1, 0, 0, 0) := by decide +kernel
theorem ql_33 : xe_look (xc 216) 33 = some (.iconst 0, 1, 0, 0, 0) := by decide +kernel
theorem ql_34 : xe_look (xc 216) 34 = some (.invokevirtual 236, 3, 0, 166, 1237) := by decide +kernel
theorem ql_37 : xe_look (xc 216) 37 = some (.putfield 444, 3, 12, 61, 1238) := by decide +kernel
theorem ql_40 : xe_look (xc 216) 40 = some (.aload_n 0, 1, 0, 0, 0) := by decide +kernel
theorem ql_41 : xe_look (xc 216) 41 = some (.ldc2_w 447, 3, 0, 9223372036854775807, 1185) := by decide +kernel
theorem ql_44 : xe_look (xc 216) 44 = some (.putfield 449, 3, 12, 62, 1239) := by decide +kernel
theorem ql_47 : xe_look (xc 216) 47 = some (.aload_n 0, 1, 0, 0, 0) := by decide +kernel
theorem ql_48 : xe_look (xc 216) 48 = some (.getfield 119, 3, 12, 59, 1202) := by decide +kernel
theorem ql_51 : xe_look (xc 216) 51 = some (.iconst 0, 1, 0, 0, 0) := by decide +kernel
theorem ql_52 : xe_look (xc 216) 52 = some (.iconst 1, 1, 0, 0, 0) := by decide +kernel
theorem ql_53 : xe_look (xc 216) 53 = some (.iastore, 1, 0, 0, 0) := by decide +kernel
theorem ql_54 : xe_look (xc 216) 54 = some (.aload_n 0, 1, 0, 0, 0) := by decide +kernel
theorem ql_55 : xe_look (xc 216) 55 = some (.getfield 122, 3, 12, 60, 1203) := by decide +kernel
theorem ql_58 : xe_look (xc 216) 58 = some (.iconst 0, 1, 0, 0, 0) := by decide +kernel
theorem ql_59 : xe_look (xc 216) 59 = some (.iconst 0, 1, 0, 0, 0) := by decide +kernel
theorem ql_60 : xe_look (xc 216) 60 = some (.iastore, 1, 0, 0, 0) := by decide +kernel
theorem ql_61 : xe_look (xc 216) 61 = some (.aload_n 0, 1, 0, 0, 0) := by decide +kernel
theorem ql_62 : xe_look (xc 216) 62 = some (.getfield 113, 3, 12, 57, 1200) := by decide +kernel
theorem ql_65 : xe_look (xc 216) 65 = some (.iconst 0, 1, 0, 0, 0) := by decide +kernel
theorem ql_66 : xe_look (xc 216) 66 = some (.iconst 0, 1, 0, 0, 0) := by decide +kernel
theorem ql_67 : xe_look (xc 216) 67 = some (.iastore, 1, 0, 0, 0) := by decide +kernel
theorem ql_68 : xe_look (xc 216) 68 = some (.iconst 0, 1, 0, 0, 0) := by decide +kernel
theorem ql_69 : xe_look (xc 216) 69 = some (.istore_n 2, 1, 0, 0, 0) := by decide +kernel
theorem ql_70 : xe_look (xc 216) 70 = some (.iload_n 2, 1, 0, 0, 0) := by decide +kernel
theorem ql_71 : xe_look (xc 216) 71 = some (.ifCond .lt 123, 3, 0, 0, 0) := by decide +kernel
theorem ql_74 : xe_look (xc 216) 74 = some (.aload_n 0, 1, 0, 0, 0) := by decide +kernel
theorem ql_75 : xe_look (xc 216) 75 = some (.getfield 113, 3, 12, 57, 1200) := by decide +kernel
theorem ql_78 : xe_look (xc 216) 78 = some (.iload_n 2, 1, 0, 0, 0) := by decide +kernel
theorem ql_79 : xe_look (xc 216) 79 = some (.aload_n 0, 1, 0, 0, 0) := by decide +kernel
theorem ql_80 : xe_look (xc 216) 80 = some (.getfield 113, 3, 12, 57, 1200) := by decide +kernel
theorem ql_83 : xe_look (xc 216) 83 = some (.iload_n 2, 1, 0, 0, 0) := by decide +kernel
theorem ql_84 : xe_look (xc 216) 84 = some (.iaload, 1, 0, 0, 0) := by decide +kernel
theorem ql_85 : xe_look (xc 216) 85 = some (.iconst 1, 1, 0, 0, 0) := by decide +kernel
theorem ql_86 : xe_look (xc 216) 86 = some (.iadd, 1, 0, 0, 0) := by decide +kernel
theorem ql_87 : xe_look (xc 216) 87 = some (.iastore, 1, 0, 0, 0) := by decide +kernel
theorem ql_88 : xe_look (xc 216) 88 = some (.aload_n 0, 1, 0, 0, 0) := by decide +kernel
theorem ql_89 : xe_look (xc 216) 89 = some (.getfield 113, 3, 12, 57, 1200) := by decide +kernel
theorem ql_92 : xe_look (xc 216) 92 = some (.iload_n 2, 1, 0, 0, 0) := by decide +kernel
theorem ql_93 : xe_look (xc 216) 93 = some (.iaload, 1, 0, 0, 0) := by decide +kernel
theorem ql_94 : xe_look (xc 216) 94 = some (.bipush 8, 2, 0, 0, 0) := by decide +kernel
theorem ql_96 : xe_look (xc 216) 96 = some (.if_icmp .ne 10, 3, 0, 0, 0) := by decide +kernel
theorem ql_99 : xe_look (xc 216) 99 = some (.iload_n 2, 1, 0, 0, 0) := by decide +kernel
theorem ql_100 : xe_look (xc 216) 100 = some (.iconst 1, 1, 0, 0, 0) := by decide +kernel
theorem ql_101 : xe_look (xc 216) 101 = some (.isub, 1, 0, 0, 0) := by decide +kernel
theorem ql_102 : xe_look (xc 216) 102 = some (.istore_n 2, 1, 0, 0, 0) := by decide +kernel
theorem ql_103 : xe_look (xc 216) 103 = some (.goto (-33), 3, 0, 0, 0) := by decide +kernel
theorem ql_106 : xe_look (xc 216) 106 = some (.aload_n 0, 1, 0, 0, 0) := by decide +kernel
theorem ql_107 : xe_look (xc 216) 107 = some (.getfield 122, 3, 12, 60, 1203) := by decide +kernel
theorem ql_110 : xe_look (xc 216) 110 = some (.iload_n 2, 1, 0, 0, 0) := by decide +kernel
theorem ql_111 : xe_look (xc 216) 111 = some (.iaload, 1, 0, 0, 0) := by decide +kernel
theorem ql_112 : xe_look (xc 216) 112 = some (.aload_n 0, 1, 0, 0, 0) := by decide +kernel
theorem ql_113 : xe_look (xc 216) 113 = some (.getfield 113, 3, 12, 57, 1200) := by decide +kernel
theorem ql_116 : xe_look (xc 216) 116 = some (.iload_n 2, 1, 0, 0, 0) := by decide +kernel
theorem ql_117 : xe_look (xc 216) 117 = some (.iaload, 1, 0, 0, 0) := by decide +kernel
theorem ql_118 : xe_look (xc 216) 118 = some (.invokestatic 218, 3, 0, 172, 1240) := by decide +kernel
theorem ql_121 : xe_look (xc 216) 121 = some (.istore_n 3, 1, 0, 0, 0) := by decide +kernel
theorem ql_122 : xe_look (xc 216) 122 = some (.aload_n 0, 1, 0, 0, 0) := by decide +kernel
theorem ql_123 : xe_look (xc 216) 123 = some (.getfield 119, 3, 12, 59, 1202) := by decide +kernel
theorem ql_126 : xe_look (xc 216) 126 = some (.iload_n 2, 1, 0, 0, 0) := by decide +kernel
theorem ql_127 : xe_look (xc 216) 127 = some (.iaload, 1, 0, 0, 0) := by decide +kernel
theorem ql_128 : xe_look (xc 216) 128 = some (.iload_n 3, 1, 0, 0, 0) := by decide +kernel
theorem ql_129 : xe_look (xc 216) 129 = some (.invokestatic 187, 3, 0, 196, 1121) := by decide +kernel
theorem ql_132 : xe_look (xc 216) 132 = some (.ifCond .eq 6, 3, 0, 0, 0) := by decide +kernel
theorem ql_135 : xe_look (xc 216) 135 = some (.goto (-65), 3, 0, 0, 0) := by decide +kernel
theorem ql_138 : xe_look (xc 216) 138 = some (.iload_n 2, 1, 0, 0, 0) := by decide +kernel
theorem ql_139 : xe_look (xc 216) 139 = some (.bipush 6, 2, 0, 0, 0) := by decide +kernel
theorem ql_141 : xe_look (xc 216) 141 = some (.if_icmp .ne 10, 3, 0, 0, 0) := by decide +kernel
theorem ql_144 : xe_look (xc 216) 144 = some (.aload_n 0, 1, 0, 0, 0) := by decide +kernel
theorem ql_145 : xe_look (xc 216) 145 = some (.invokevirtual 453, 3, 0, 224, 1241) := by decide +kernel
theorem ql_148 : xe_look (xc 216) 148 = some (.goto (-78), 3, 0, 0, 0) := by decide +kernel
theorem ql_151 : xe_look (xc 216) 151 = some (.aload_n 0, 1, 0, 0, 0) := by decide +kernel
theorem ql_152 : xe_look (xc 216) 152 = some (.getfield 119, 3, 12, 59, 1202) := by decide +kernel
theorem ql_155 : xe_look (xc 216) 155 = some (.iload_n 2, 1, 0, 0, 0) := by decide +kernel
theorem ql_156 : xe_look (xc 216) 156 = some (.iconst 1, 1, 0, 0, 0) := by decide +kernel
theorem ql_157 : xe_look (xc 216) 157 = some (.iadd, 1, 0, 0, 0) := by decide +kernel
theorem ql_158 : xe_look (xc 216) 158 = some (.aload_n 0, 1, 0, 0, 0) := by decide +kernel
theorem ql_159 : xe_look (xc 216) 159 = some (.getfield 119, 3, 12, 59, 1202) := by decide +kernel
theorem ql_162 : xe_look (xc 216) 162 = some (.iload_n 2, 1, 0, 0, 0) := by decide +kernel
theorem ql_163 : xe_look (xc 216) 163 = some (.iaload, 1, 0, 0, 0) := by decide +kernel
theorem ql_164 : xe_look (xc 216) 164 = some (.iconst 1, 1, 0, 0, 0) := by decide +kernel
theorem ql_165 : xe_look (xc 216) 165 = some (.iload_n 3, 1, 0, 0, 0) := by decide +kernel
theorem ql_166 : xe_look (xc 216) 166 = some (.ishl, 1, 0, 0, 0) := by decide +kernel
theorem ql_167 : xe_look (xc 216) 167 = some (.ior, 1, 0, 0, 0) := by decide +kernel
theorem ql_168 : xe_look (xc 216) 168 = some (.iastore, 1, 0, 0, 0) := by decide +kernel
theorem ql_169 : xe_look (xc 216) 169 = some (.aload_n 0, 1, 0, 0, 0) := by decide +kernel
theorem ql_170 : xe_look (xc 216) 170 = some (.getfield 122, 3, 12, 60, 1203) := by decide +kernel
theorem ql_173 : xe_look (xc 216) 173 = some (.iload_n 2, 1, 0, 0, 0) := by decide +kernel
theorem ql_174 : xe_look (xc 216) 174 = some (.iconst 1, 1, 0, 0, 0) := by decide +kernel
theorem ql_175 : xe_look (xc 216) 175 = some (.iadd, 1, 0, 0, 0) := by decide +kernel
theorem ql_176 : xe_look (xc 216) 176 = some (.iload_n 3, 1, 0, 0, 0) := by decide +kernel
theorem ql_177 : xe_look (xc 216) 177 = some (.iastore, 1, 0, 0, 0) := by decide +kernel
theorem ql_178 : xe_look (xc 216) 178 = some (.aload_n 0, 1, 0, 0, 0) := by decide +kernel
theorem ql_179 : xe_look (xc 216) 179 = some (.getfield 113, 3, 12, 57, 1200) := by decide +kernel
theorem ql_182 : xe_look (xc 216) 182 = some (.iload_n 2, 1, 0, 0, 0) := by decide +kernel
theorem ql_183 : xe_look (xc 216) 183 = some (.iconst 1, 1, 0, 0, 0) := by decide +kernel
theorem ql_184 : xe_look (xc 216) 184 = some (.iadd, 1, 0, 0, 0) := by decide +kernel
theorem ql_185 : xe_look (xc 216) 185 = some (.iconst 0, 1, 0, 0, 0) := by decide +kernel
theorem ql_186 : xe_look (xc 216) 186 = some (.iastore, 1, 0, 0, 0) := by decide +kernel
theorem ql_187 : xe_look (xc 216) 187 = some (.iload_n 2, 1, 0, 0, 0) := by decide +kernel
theorem ql_188 : xe_look (xc 216) 188 = some (.iconst 1, 1, 0, 0, 0) := by decide +kernel
theorem ql_189 : xe_look (xc 216) 189 = some (.iadd, 1, 0, 0, 0) := by decide +kernel
theorem ql_190 : xe_look (xc 216) 190 = some (.istore_n 2, 1, 0, 0, 0) := by decide +kernel
theorem ql_191 : xe_look (xc 216) 191 = some (.goto (-121), 3, 0, 0, 0) := by decide +kernel
theorem ql_194 : xe_look (xc 216) 194 = some (.return_, 1, 0, 0, 0) := by decide +kernel
theorem el_233 : eL[233]? = some (1, 7) := by decide +kernel
theorem el_234 : eL[234]? = some (1, 7) := by decide +kernel
theorem eg_f59 : (eG (cn 196 + 59)).2.2 = [234] := by decide +kernel
theorem eg_f60 : (eG (cn 196 + 60)).2.2 = [235] := by decide +kernel
theorem eg_a231 : eG (cn 231) = ((-2147483648), 2147483647, []) := by decide +kernel
theorem eg_a233 : eG (cn 233) = ((-2147483648), 2147483647, []) := by decide +kernel
theorem eg_a234 : eG (cn 234) = ((-2147483648), 2147483647, []) := by decide +kernel
theorem clampN {i : Nat} (h : i < 1000) : (nI i).toNatClampNeg = i := by
  show (nI i).toInt.toNat = i
  rw [nI_toInt (by omega)]
  omega
theorem t_ia {d μ pc K n x y z W : Nat} {lv : List (Nat × pv)} {r : List pv} {h0 g : pH} {P : Option pv × pH → Prop} {v j : Int32} (hq : xe_look (xc μ) pc = some (.iastore, 1, x, y, z)) (hJ : J_ W h0 g) (hk : eL[K]? = some (1, n)) (hW : W.testBit (cn K) = true) (hv : ok_v v.toInt (eG (cn K))) (hi : ¬ (j < 0 ∨ n ≤ j.toNatClampNeg)) (cont : ∀ g1 : pH, J_ W h0 g1 → (∀ k, k ≠ K → g1.2.2.2.1 k = g.2.2.2.1 k) → g1.2.2.2.1 K j.toNatClampNeg = v → (∀ u, u ≠ j.toNatClampNeg → g1.2.2.2.1 K u = g.2.2.2.1 K u) → t_X d μ (pc + 1) lv r g1 P) : t_X d μ pc lv (.inl v :: .inl j :: .inr (.inr (some K)) :: r) g P := t_4 hq rfl (piast hk hi) (cont _ (J_ia hJ hk hW hv) (fun k hk => pu_ne _ _ hk) (pu_at _ _ _ _) (fun u hu => pu_nj _ _ hu))
def rw_ (g : pH) (k : Nat) : Int := (g.2.2.2.1 231 k).toInt
def msr (g : pH) : Nat → Nat
  | 0 => 0
  | n + 1 => msr g n + (8 - rw_ g n).toNat * 9 ^ (6 - n)
theorem msr_eq {g g' : pH} : ∀ {n : Nat}, (∀ k, k < n → rw_ g k = rw_ g' k) → msr g n = msr g' n
  | 0, _ => rfl
  | n + 1, h => by
    show msr g n + (8 - rw_ g n).toNat * 9 ^ (6 - n) = msr g' n + (8 - rw_ g' n).toNat * 9 ^ (6 - n)
    rw [msr_eq (n := n) (fun k hk => h k (by omega)), h n (by omega)]
theorem nI_pre2 {i : Nat} (h : i < 7) : nI (i + 1) - Int32.ofInt 1 = nI i := by
  have : ∀ i, i < 7 → nI (i + 1) - Int32.ofInt 1 = nI i := by decide +kernel
  exact this i h
set_option maxHeartbeats 8000000 in
theorem lt_loop {d W : Nat} (hd : 4 ≤ d) {h0 : pH} (w231 : W.testBit (cn 231) = true) (w232 : W.testBit (cn 232) = true) (w233 : W.testBit (cn 233) = true) (w234 : W.testBit (cn 234) = true) (w62 : W.testBit (cn 196 + 62) = true) {P : Option pv × pH → Prop} (hP : ∀ g : pH, J_ W h0 g → P (none, g)) : ∀ (M i : Nat) (g : pH) (lv : List (Nat × pv)), msr g (i + 1) ≤ M → i ≤ 6 → J_ W h0 g → (∀ k, k < i → 1 ≤ rw_ g k ∧ rw_ g k ≤ 7) → (0 ≤ rw_ g i ∧ rw_ g i ≤ 7) → (∀ k, k ≤ i → 0 ≤ (g.2.2.2.1 234 k).toInt ∧ (g.2.2.2.1 234 k).toInt ≤ 7) → px_lg lv 0 = some (.inr (.inr (some 196))) → px_lg lv 2 = some (.inl (nI i)) → t_X d 216 70 lv [] g P := by
  intro M
  induction M with
  | zero =>
    intro i g lv hM hi hJ h1 h2 h3 l0 l2
    have hp : 0 < 9 ^ (6 - i) := Nat.pow_pos (by omega)
    have hm : msr g (i + 1) = msr g i + (8 - rw_ g i).toNat * 9 ^ (6 - i) := rfl
    have hq : 1 * 1 ≤ (8 - rw_ g i).toNat * 9 ^ (6 - i) := Nat.mul_le_mul (by omega) hp
    omega
  | succ M ih =>
    intro i g lv hM hi hJ h1 h2 h3 l0 l2
    have hp : 0 < 9 ^ (6 - i) := Nat.pow_pos (by omega)
    have hm : msr g (i + 1) = msr g i + (8 - rw_ g i).toNat * 9 ^ (6 - i) := rfl
    have hq : 1 * 1 ≤ (8 - rw_ g i).toNat * 9 ^ (6 - i) := Nat.mul_le_mul (by omega) hp
    have hge : ¬ nI i < 0 := fun z => by
      have z := i32_lt0.mp z
      rw [nI_toInt (by omega)] at z
      omega
    have hcl : ¬ (nI i < 0 ∨ 7 ≤ (nI i).toNatClampNeg) := e_clamp (by rw [nI_toInt (by omega)]; omega) (by rw [nI_toInt (by omega)]; omega)
    have hr := gI_r (r := 231) hJ.1 el_196 (Nat.le_of_ble_eq_true rfl) (y := 57) rfl eg_f57
    refine t_0 ql_70 rfl (ld_i l2) ?_
    refine t_1 ql_71 rfl (pb_lt_f (pc := 71) (by decide) hge) ?_
    show t_X d 216 74 lv [] g P
    refine t_0 ql_74 rfl (ld_a l0) ?_
    refine t_0 ql_75 rfl (pget el_196 hr) ?_
    refine t_0 ql_78 rfl (ld_i l2) ?_
    refine t_0 ql_79 rfl (ld_a l0) ?_
    refine t_0 ql_80 rfl (pget el_196 hr) ?_
    refine t_0 ql_83 rfl (ld_i l2) ?_
    refine t_0 ql_84 rfl (piald (by decide) el_231 hcl) ?_
    refine t_0 ql_85 rfl rfl ?_
    refine t_0 ql_86 rfl rfl ?_
    refine t_ia ql_87 hJ el_231 w231 (by rw [eg_a231]; exact ok_full32 _) hcl (fun g1 hJ1 k1 k2 k3 => ?_)
    clear hr
    have hr := gI_r (r := 231) hJ1.1 el_196 (Nat.le_of_ble_eq_true rfl) (y := 57) rfl eg_f57
    have hs := gI_r (r := 233) hJ1.1 el_196 (Nat.le_of_ble_eq_true rfl) (y := 59) rfl eg_f59
    have hc := gI_r (r := 234) hJ1.1 el_196 (Nat.le_of_ble_eq_true rfl) (y := 60) rfl eg_f60
    have hcN := clampN (i := i) (by omega)
    rw [hcN] at k2 k3
    have r1 : rw_ g1 i = rw_ g i + 1 := by
      have h2' : 0 ≤ (g.2.2.2.1 231 i).toInt ∧ (g.2.2.2.1 231 i).toInt ≤ 7 := h2
      have e1 : (Int32.ofInt 1).toInt = 1 := by decide
      show (g1.2.2.2.1 231 i).toInt = (g.2.2.2.1 231 i).toInt + 1
      rw [k2, Jvm.Kit.i32_add (by rw [e1]; omega) (by rw [e1]; omega), e1]
    have r2 : ∀ k, k < i → rw_ g1 k = rw_ g k := fun k hk => congrArg Int32.toInt (k3 k (by omega))
    have c1 : ∀ k, k ≤ i → 0 ≤ (g1.2.2.2.1 234 k).toInt ∧ (g1.2.2.2.1 234 k).toInt ≤ 7 := fun k hk => by
      rw [k1 234 (by decide)]
      exact h3 k hk
    have m1 : msr g1 i = msr g i := msr_eq r2
    have hm1 : msr g1 (i + 1) = msr g1 i + (8 - rw_ g1 i).toNat * 9 ^ (6 - i) := rfl
    have hsu : (8 - rw_ g i).toNat = (8 - rw_ g1 i).toNat + 1 := by omega
    rw [hsu, Nat.succ_mul] at hm
    show t_X d 216 88 lv [] g1 P
    refine t_0 ql_88 rfl (ld_a l0) ?_
    refine t_0 ql_89 rfl (pget el_196 hr) ?_
    refine t_0 ql_92 rfl (ld_i l2) ?_
    refine t_0 ql_93 rfl (piald (by decide) el_231 hcl) ?_
    refine t_0 ql_94 rfl rfl ?_
    by_cases h8 : g1.2.2.2.1 231 (nI i).toNatClampNeg = (Int8.ofInt (8)).toInt32
    · clear hs hc
      refine t_1 ql_96 rfl (pc_ne_f (pc := 96) (by decide) h8) ?_
      show t_X d 216 99 lv [] g1 P
      refine t_0 ql_99 rfl (ld_i l2) ?_
      refine t_0 ql_100 rfl rfl ?_
      refine t_0 ql_101 rfl rfl ?_
      refine t_2 ql_102 rfl (w := (px_s1 lv 2 (.inl ((nI i) - (Int32.ofInt (1)))), [])) rfl ?_
      replace l0 : px_lg (px_s1 lv 2 (.inl ((nI i) - (Int32.ofInt (1))))) 0 = some (.inr (.inr (some 196))) := s1_ne (by decide) (fun _ => rfl) l0
      have l2 : px_lg (px_s1 lv 2 (.inl ((nI i) - (Int32.ofInt (1))))) 2 = some (.inl ((nI i) - (Int32.ofInt (1)))) := s1_eq
      generalize px_s1 lv 2 (.inl ((nI i) - (Int32.ofInt (1)))) = lv1 at l0 l2 ⊢
      show t_X d 216 103 lv1 [] g1 P
      refine t_1 ql_103 rfl (pb_goto (pc := 103) (by decide)) ?_
      show t_X d 216 70 lv1 [] g1 P
      cases i with
      | zero =>
        refine t_0 ql_70 rfl (ld_i l2) ?_
        refine t_1 ql_71 rfl (pb_lt_t (pc := 71) (by decide) (by decide +kernel)) ?_
        refine t_5 ql_194 rfl rfl ?_
        exact hP g1 hJ1
      | succ i =>
        rw [nI_pre2 (by omega)] at l2
        have q1 := h1 i (by omega)
        have q2 := r2 i (by omega)
        exact ih i g1 _ (by omega) (by omega) hJ1 (fun k hk => by rw [r2 k (by omega)]; exact h1 k (by omega)) (by rw [q2]; omega) (fun k hk => c1 k (by omega)) l0 l2
    · have r7 : 1 ≤ rw_ g1 i ∧ rw_ g1 i ≤ 7 := by
        refine ⟨by omega, ?_⟩
        by_cases z : rw_ g1 i = 8
        · refine absurd (Int32.toInt_inj.mp ?_) h8
          rw [hcN]
          show rw_ g1 i = _
          rw [z]
          decide +kernel
        · omega
      have rows : ∀ k, k ≤ i → 1 ≤ rw_ g1 k ∧ rw_ g1 k ≤ 7 := fun k hk => by
        by_cases e : k = i
        · rw [e]; exact r7
        · rw [r2 k (by omega)]; exact h1 k (by omega)
      have stay : ∀ lv2 : List (Nat × pv), px_lg lv2 0 = some (.inr (.inr (some 196))) → px_lg lv2 2 = some (.inl (nI i)) → t_X d 216 70 lv2 [] g1 P := fun lv2 a0 a2 => ih i g1 lv2 (by omega) hi hJ1 (fun k hk => rows k (by omega)) ⟨by omega, r7.2⟩ c1 a0 a2
      refine t_1 ql_96 rfl (pc_ne_t (pc := 96) (by decide) h8) ?_
      show t_X d 216 106 lv [] g1 P
      refine t_0 ql_106 rfl (ld_a l0) ?_
      refine t_0 ql_107 rfl (pget el_196 hc) ?_
      refine t_0 ql_110 rfl (ld_i l2) ?_
      refine t_0 ql_111 rfl (piald (by decide) el_234 hcl) ?_
      refine t_0 ql_112 rfl (ld_a l0) ?_
      refine t_0 ql_113 rfl (pget el_196 hr) ?_
      refine t_0 ql_116 rfl (ld_i l2) ?_
      refine t_0 ql_117 rfl (piald (by decide) el_231 hcl) ?_
      refine t_3 ql_118 rfl (ar := ([.inl (g1.2.2.2.1 234 (nI i).toNatClampNeg), .inl (g1.2.2.2.1 231 (nI i).toNatClampNeg)], [])) (pcal_s ⟨Or.inl rfl, rfl, Nat.le_of_ble_eq_true rfl⟩) ⟨by omega, Nat.le_of_ble_eq_true rfl, Nat.le_of_ble_eq_true rfl, rfl⟩ ?_
      refine both_run (by rw [hcN]; exact c1 i (Nat.le_refl _)) (by rw [hcN]; exact ⟨by have := r7.1; show 0 ≤ rw_ g1 i; omega, r7.2⟩) (fun w w0 w7 => ?_)
      show t_X d 216 121 lv [.inl w] g1 P
      refine t_2 ql_121 rfl (w := (px_s1 lv 3 (.inl (w)), [])) rfl ?_
      replace l0 : px_lg (px_s1 lv 3 (.inl (w))) 0 = some (.inr (.inr (some 196))) := s1_ne (by decide) (fun _ => rfl) l0
      replace l2 : px_lg (px_s1 lv 3 (.inl (w))) 2 = some (.inl (nI i)) := s1_ne (by decide) (fun _ => rfl) l2
      have l3 : px_lg (px_s1 lv 3 (.inl (w))) 3 = some (.inl (w)) := s1_eq
      generalize px_s1 lv 3 (.inl (w)) = lv1 at l0 l2 l3 ⊢
      show t_X d 216 122 lv1 [] g1 P
      refine t_0 ql_122 rfl (ld_a l0) ?_
      refine t_0 ql_123 rfl (pget el_196 hs) ?_
      refine t_0 ql_126 rfl (ld_i l2) ?_
      refine t_0 ql_127 rfl (piald (by decide) el_233 hcl) ?_
      refine t_0 ql_128 rfl (ld_i l3) ?_
      refine t_3 ql_129 rfl (ar := ([.inl (g1.2.2.2.1 233 (nI i).toNatClampNeg), .inl w], [])) (pcal_s ⟨Or.inl rfl, rfl, Nat.le_of_ble_eq_true rfl⟩) ⟨by omega, Nat.le_of_ble_eq_true rfl, Nat.le_of_ble_eq_true rfl, rfl⟩ ?_
      refine has_run (fun _ => ?_) (fun _ => ?_)
      · show t_X d 216 132 lv1 [.inl (Int32.ofInt 1)] g1 P
        refine t_1 ql_132 rfl (pb_eq_f (pc := 132) (by decide) i1_n) ?_
        show t_X d 216 135 lv1 [] g1 P
        refine t_1 ql_135 rfl (pb_goto (pc := 135) (by decide)) ?_
        show t_X d 216 70 lv1 [] g1 P
        exact stay _ l0 l2
      · show t_X d 216 132 lv1 [.inl (Int32.ofInt 0)] g1 P
        refine t_1 ql_132 rfl (pb_eq_t (pc := 132) (by decide) i0_0) ?_
        show t_X d 216 138 lv1 [] g1 P
        refine t_0 ql_138 rfl (ld_i l2) ?_
        refine t_0 ql_139 rfl rfl ?_
        by_cases h6 : nI i = (Int8.ofInt (6)).toInt32
        · have hi6 : i = 6 := by
            have : ∀ i, i < 7 → nI i = (Int8.ofInt (6)).toInt32 → i = 6 := by decide +kernel
            exact this i (by omega) h6
          refine t_1 ql_141 rfl (pc_ne_f (pc := 141) (by decide) h6) ?_
          show t_X d 216 144 lv1 [] g1 P
          refine t_0 ql_144 rfl (ld_a l0) ?_
          refine t_3 ql_145 rfl (ar := ([pvR 196], [])) (pcal_v0 rfl rfl el_196) ⟨by omega, Nat.le_of_ble_eq_true rfl, Nat.le_of_ble_eq_true rfl, rfl⟩ ?_
          refine nr_run (by omega) hJ1 w232 w62 (fun j hj => rows j (by omega)) (fun g2 hJ2 hK => ?_) rfl
          show t_X d 216 148 lv1 [] g2 P
          refine t_1 ql_148 rfl (pb_goto (pc := 148) (by decide)) ?_
          have e1 : ∀ k, rw_ g2 k = rw_ g1 k := fun k => by
            show (g2.2.2.2.1 231 k).toInt = _
            rw [hK.2 231 (by decide)]
            rfl
          have e2 : msr g2 (i + 1) = msr g1 (i + 1) := msr_eq (fun k _ => e1 k)
          exact ih i g2 _ (by omega) hi hJ2 (fun k hk => by rw [e1]; exact rows k (by omega)) (by rw [e1]; omega) (fun k hk => by rw [hK.2 234 (by decide)]; exact c1 k hk) l0 l2
        · have hi6 : i < 6 := by
            by_cases e : i = 6
            · refine absurd ?_ h6
              rw [e]
              decide +kernel
            · omega
          have hcl2 : ¬ (nI i + Int32.ofInt 1 < 0 ∨ 7 ≤ (nI i + Int32.ofInt 1).toNatClampNeg) := by
            rw [j_inc (by omega)]
            exact e_clamp (by rw [nI_toInt (by omega)]; omega) (by rw [nI_toInt (by omega)]; omega)
          have hcM : (nI i + Int32.ofInt 1).toNatClampNeg = i + 1 := by
            rw [j_inc (by omega)]
            exact clampN (by omega)
          refine t_1 ql_141 rfl (pc_ne_t (pc := 141) (by decide) h6) ?_
          show t_X d 216 151 lv1 [] g1 P
          refine t_0 ql_151 rfl (ld_a l0) ?_
          refine t_0 ql_152 rfl (pget el_196 hs) ?_
          refine t_0 ql_155 rfl (ld_i l2) ?_
          refine t_0 ql_156 rfl rfl ?_
          refine t_0 ql_157 rfl rfl ?_
          refine t_0 ql_158 rfl (ld_a l0) ?_
          refine t_0 ql_159 rfl (pget el_196 hs) ?_
          refine t_0 ql_162 rfl (ld_i l2) ?_
          refine t_0 ql_163 rfl (piald (by decide) el_233 hcl) ?_
          refine t_0 ql_164 rfl rfl ?_
          refine t_0 ql_165 rfl (ld_i l3) ?_
          refine t_0 ql_166 rfl rfl ?_
          refine t_0 ql_167 rfl rfl ?_
          refine t_ia ql_168 hJ1 el_233 w233 (by rw [eg_a233]; exact ok_full32 _) hcl2 (fun g2 hJ2 a1 _ _ => ?_)
          have hc2 := gI_r (r := 234) hJ2.1 el_196 (Nat.le_of_ble_eq_true rfl) (y := 60) rfl eg_f60
          show t_X d 216 169 lv1 [] g2 P
          refine t_0 ql_169 rfl (ld_a l0) ?_
          refine t_0 ql_170 rfl (pget el_196 hc2) ?_
          refine t_0 ql_173 rfl (ld_i l2) ?_
          refine t_0 ql_174 rfl rfl ?_
          refine t_0 ql_175 rfl rfl ?_
          refine t_0 ql_176 rfl (ld_i l3) ?_
          refine t_ia ql_177 hJ2 el_234 w234 (by rw [eg_a234]; exact ok_full32 _) hcl2 (fun g3 hJ3 b1 b2 b3 => ?_)
          have hr3 := gI_r (r := 231) hJ3.1 el_196 (Nat.le_of_ble_eq_true rfl) (y := 57) rfl eg_f57
          show t_X d 216 178 lv1 [] g3 P
          refine t_0 ql_178 rfl (ld_a l0) ?_
          refine t_0 ql_179 rfl (pget el_196 hr3) ?_
          refine t_0 ql_182 rfl (ld_i l2) ?_
          refine t_0 ql_183 rfl rfl ?_
          refine t_0 ql_184 rfl rfl ?_
          refine t_0 ql_185 rfl rfl ?_
          refine t_ia ql_186 hJ3 el_231 w231 (by rw [eg_a231]; exact ok_full32 _) hcl2 (fun g4 hJ4 d1 d2 d3 => ?_)
          rw [hcM] at b2 b3 d2 d3
          show t_X d 216 187 lv1 [] g4 P
          refine t_0 ql_187 rfl (ld_i l2) ?_
          refine t_0 ql_188 rfl rfl ?_
          refine t_0 ql_189 rfl rfl ?_
          refine t_2 ql_190 rfl (w := (px_s1 lv1 2 (.inl (nI i + Int32.ofInt 1)), [])) rfl ?_
          refine t_1 ql_191 rfl (pb_goto (pc := 191) (by decide)) ?_
          have e1 : ∀ k, k ≤ i → rw_ g4 k = rw_ g1 k := fun k hk => by
            show (g4.2.2.2.1 231 k).toInt = (g1.2.2.2.1 231 k).toInt
            rw [d3 k (by omega), b1 231 (by decide), a1 231 (by decide)]
          have e2 : rw_ g4 (i + 1) = 0 := by
            show (g4.2.2.2.1 231 (i + 1)).toInt = 0
            rw [d2]
            decide +kernel
          have e3 : msr g4 (i + 1) = msr g1 (i + 1) := msr_eq (fun k hk => e1 k (by omega))
          have e4 : msr g4 (i + 1 + 1) = msr g4 (i + 1) + (8 - rw_ g4 (i + 1)).toNat * 9 ^ (6 - (i + 1)) := rfl
          have e5 : 9 ^ (6 - i) = 9 ^ (6 - (i + 1)) * 9 := by
            rw [show 6 - i = (6 - (i + 1)) + 1 by omega, Nat.pow_succ]
          have e6 : 0 < 9 ^ (6 - (i + 1)) := Nat.pow_pos (by omega)
          rw [e2, show ((8 : Int) - 0).toNat = 8 from rfl] at e4
          refine ih (i + 1) g4 _ (by omega) (by omega) hJ4 (fun k hk => by rw [e1 k (by omega)]; exact rows k (by omega)) (by rw [e2]; decide) (fun k hk => ?_) (s1_ne (by decide) (fun _ => rfl) l0) (by rw [j_inc (by omega)]; exact s1_eq)
          rw [d1 234 (by decide)]
          by_cases e : k = i + 1
          · rw [e, b2]
            exact ⟨w0, w7⟩
          · rw [b3 k e, a1 234 (by decide)]
            exact c1 k (by omega)
end
section
/-! by hand: feels (printed in part by wip/e2/fe.py) -/
theorem qf_0 : xe_look (xc 190) 0 = some (.aload_n 0, 1, 0, 0, 0) := by decide +kernel
theorem qf_1 : xe_look (xc 190) 1 = some (.getfield 104, 3, 12, 48, 1153) := by decide +kernel
theorem qf_4 : xe_look (xc 190) 4 = some (.iconst 0, 1, 0, 0, 0) := by decide +kernel
theorem qf_5 : xe_look (xc 190) 5 = some (.iload_n 1, 1, 0, 0, 0) := by decide +kernel
theorem qf_6 : xe_look (xc 190) 6 = some (.iastore, 1, 0, 0, 0) := by decide +kernel
theorem qf_7 : xe_look (xc 190) 7 = some (.aload_n 0, 1, 0, 0, 0) := by decide +kernel
theorem qf_8 : xe_look (xc 190) 8 = some (.getfield 104, 3, 12, 48, 1153) := by decide +kernel
theorem qf_11 : xe_look (xc 190) 11 = some (.iconst 1, 1, 0, 0, 0) := by decide +kernel
theorem qf_12 : xe_look (xc 190) 12 = some (.aload_n 0, 1, 0, 0, 0) := by decide +kernel
theorem qf_13 : xe_look (xc 190) 13 = some (.getfield 16, 3, 12, 4, 1175) := by decide +kernel
theorem qf_16 : xe_look (xc 190) 16 = some (.iload_n 1, 1, 0, 0, 0) := by decide +kernel
theorem qf_17 : xe_look (xc 190) 17 = some (.iaload, 1, 0, 0, 0) := by decide +kernel
theorem qf_18 : xe_look (xc 190) 18 = some (.iastore, 1, 0, 0, 0) := by decide +kernel
theorem qf_19 : xe_look (xc 190) 19 = some (.aload_n 0, 1, 0, 0, 0) := by decide +kernel
theorem qf_20 : xe_look (xc 190) 20 = some (.getfield 104, 3, 12, 48, 1153) := by decide +kernel
theorem qf_23 : xe_look (xc 190) 23 = some (.iconst 2, 1, 0, 0, 0) := by decide +kernel
theorem qf_24 : xe_look (xc 190) 24 = some (.aload_n 0, 1, 0, 0, 0) := by decide +kernel
theorem qf_25 : xe_look (xc 190) 25 = some (.getfield 19, 3, 12, 5, 1155) := by decide +kernel
theorem qf_28 : xe_look (xc 190) 28 = some (.iload_n 1, 1, 0, 0, 0) := by decide +kernel
theorem qf_29 : xe_look (xc 190) 29 = some (.iaload, 1, 0, 0, 0) := by decide +kernel
theorem qf_30 : xe_look (xc 190) 30 = some (.iastore, 1, 0, 0, 0) := by decide +kernel
theorem qf_31 : xe_look (xc 190) 31 = some (.aload_n 0, 1, 0, 0, 0) := by decide +kernel
theorem qf_32 : xe_look (xc 190) 32 = some (.getfield 104, 3, 12, 48, 1153) := by decide +kernel
theorem qf_35 : xe_look (xc 190) 35 = some (.iconst 3, 1, 0, 0, 0) := by decide +kernel
theorem qf_36 : xe_look (xc 190) 36 = some (.aload_n 0, 1, 0, 0, 0) := by decide +kernel
theorem qf_37 : xe_look (xc 190) 37 = some (.getfield 25, 3, 12, 7, 1167) := by decide +kernel
theorem qf_40 : xe_look (xc 190) 40 = some (.iload_n 1, 1, 0, 0, 0) := by decide +kernel
theorem qf_41 : xe_look (xc 190) 41 = some (.iaload, 1, 0, 0, 0) := by decide +kernel
theorem qf_42 : xe_look (xc 190) 42 = some (.iastore, 1, 0, 0, 0) := by decide +kernel
theorem qf_43 : xe_look (xc 190) 43 = some (.aload_n 0, 1, 0, 0, 0) := by decide +kernel
theorem qf_44 : xe_look (xc 190) 44 = some (.getfield 104, 3, 12, 48, 1153) := by decide +kernel
theorem qf_47 : xe_look (xc 190) 47 = some (.iconst 4, 1, 0, 0, 0) := by decide +kernel
theorem qf_48 : xe_look (xc 190) 48 = some (.iload_n 2, 1, 0, 0, 0) := by decide +kernel
theorem qf_49 : xe_look (xc 190) 49 = some (.iconst 4, 1, 0, 0, 0) := by decide +kernel
theorem qf_50 : xe_look (xc 190) 50 = some (.irem, 1, 0, 0, 0) := by decide +kernel
theorem qf_51 : xe_look (xc 190) 51 = some (.iastore, 1, 0, 0, 0) := by decide +kernel
theorem qf_52 : xe_look (xc 190) 52 = some (.aload_n 0, 1, 0, 0, 0) := by decide +kernel
theorem qf_53 : xe_look (xc 190) 53 = some (.getfield 104, 3, 12, 48, 1153) := by decide +kernel
theorem qf_56 : xe_look (xc 190) 56 = some (.iconst 5, 1, 0, 0, 0) := by decide +kernel
theorem qf_57 : xe_look (xc 190) 57 = some (.iload_n 2, 1, 0, 0, 0) := by decide +kernel
theorem qf_58 : xe_look (xc 190) 58 = some (.iconst 4, 1, 0, 0, 0) := by decide +kernel
theorem qf_59 : xe_look (xc 190) 59 = some (.idiv, 1, 0, 0, 0) := by decide +kernel
theorem qf_60 : xe_look (xc 190) 60 = some (.iastore, 1, 0, 0, 0) := by decide +kernel
theorem qf_61 : xe_look (xc 190) 61 = some (.aload_n 0, 1, 0, 0, 0) := by decide +kernel
theorem qf_62 : xe_look (xc 190) 62 = some (.getfield 104, 3, 12, 48, 1153) := by decide +kernel
theorem qf_65 : xe_look (xc 190) 65 = some (.bipush 6, 2, 0, 0, 0) := by decide +kernel
theorem qf_67 : xe_look (xc 190) 67 = some (.aload_n 0, 1, 0, 0, 0) := by decide +kernel
theorem qf_68 : xe_look (xc 190) 68 = some (.getfield 372, 3, 12, 49, 1172) := by decide +kernel
theorem qf_71 : xe_look (xc 190) 71 = some (.iastore, 1, 0, 0, 0) := by decide +kernel
theorem qf_72 : xe_look (xc 190) 72 = some (.aload_n 0, 1, 0, 0, 0) := by decide +kernel
theorem qf_73 : xe_look (xc 190) 73 = some (.getfield 104, 3, 12, 48, 1153) := by decide +kernel
theorem qf_76 : xe_look (xc 190) 76 = some (.bipush 7, 2, 0, 0, 0) := by decide +kernel
theorem qf_78 : xe_look (xc 190) 78 = some (.aload_n 0, 1, 0, 0, 0) := by decide +kernel
theorem qf_79 : xe_look (xc 190) 79 = some (.getfield 22, 3, 12, 6, 1176) := by decide +kernel
theorem qf_82 : xe_look (xc 190) 82 = some (.iload_n 1, 1, 0, 0, 0) := by decide +kernel
theorem qf_83 : xe_look (xc 190) 83 = some (.iaload, 1, 0, 0, 0) := by decide +kernel
theorem qf_84 : xe_look (xc 190) 84 = some (.iastore, 1, 0, 0, 0) := by decide +kernel
theorem qf_85 : xe_look (xc 190) 85 = some (.aload_n 0, 1, 0, 0, 0) := by decide +kernel
theorem qf_86 : xe_look (xc 190) 86 = some (.getfield 104, 3, 12, 48, 1153) := by decide +kernel
theorem qf_89 : xe_look (xc 190) 89 = some (.bipush 8, 2, 0, 0, 0) := by decide +kernel
theorem qf_91 : xe_look (xc 190) 91 = some (.iconst 0, 1, 0, 0, 0) := by decide +kernel
theorem qf_92 : xe_look (xc 190) 92 = some (.iastore, 1, 0, 0, 0) := by decide +kernel
theorem qf_93 : xe_look (xc 190) 93 = some (.aload_n 0, 1, 0, 0, 0) := by decide +kernel
theorem qf_94 : xe_look (xc 190) 94 = some (.getfield 104, 3, 12, 48, 1153) := by decide +kernel
theorem qf_97 : xe_look (xc 190) 97 = some (.bipush 9, 2, 0, 0, 0) := by decide +kernel
theorem qf_99 : xe_look (xc 190) 99 = some (.iconst 0, 1, 0, 0, 0) := by decide +kernel
theorem qf_100 : xe_look (xc 190) 100 = some (.iastore, 1, 0, 0, 0) := by decide +kernel
theorem qf_101 : xe_look (xc 190) 101 = some (.aload_n 0, 1, 0, 0, 0) := by decide +kernel
theorem qf_102 : xe_look (xc 190) 102 = some (.getfield 104, 3, 12, 48, 1153) := by decide +kernel
theorem qf_105 : xe_look (xc 190) 105 = some (.bipush 10, 2, 0, 0, 0) := by decide +kernel
theorem qf_107 : xe_look (xc 190) 107 = some (.iconst 0, 1, 0, 0, 0) := by decide +kernel
theorem qf_108 : xe_look (xc 190) 108 = some (.iastore, 1, 0, 0, 0) := by decide +kernel
theorem qf_109 : xe_look (xc 190) 109 = some (.return_, 1, 0, 0, 0) := by decide +kernel
theorem el_228 : eL[228]? = some (1, 11) := by decide +kernel
theorem eg_f48 : (eG (cn 196 + 48)).2.2 = [229] := by decide +kernel
theorem eg_a228 : eG (cn 228) = ((-2147483648), 2147483647, []) := by decide +kernel
theorem el_199 : eL[199]? = some (1, 32) := by decide +kernel
theorem eg_g4 : (eG (cn 196 + 4)).2.2 = [200] := by decide +kernel
theorem el_200 : eL[200]? = some (1, 32) := by decide +kernel
theorem eg_g5 : (eG (cn 196 + 5)).2.2 = [201] := by decide +kernel
theorem el_201 : eL[201]? = some (1, 32) := by decide +kernel
theorem eg_g6 : (eG (cn 196 + 6)).2.2 = [202] := by decide +kernel
theorem el_202 : eL[202]? = some (1, 32) := by decide +kernel
theorem eg_g7 : (eG (cn 196 + 7)).2.2 = [203] := by decide +kernel
theorem pidiv {d x y : Nat} {lv : List (Nat × pv)} {a b : Int32} {r : List pv} {h : pH} (hne : ¬ b = 0) : px_push eL d none .idiv x y lv (.inl b :: .inl a :: r) h = some (.inl (a / b) :: r) := if_neg hne
set_option maxHeartbeats 8000000 in
theorem feels_run {d W : Nat} {h0 g0 : pH} {lv : List (Nat × pv)} {i : Nat} (hi : i < 32) {n : Int32} (w228 : W.testBit (cn 228) = true) (hJ : J_ W h0 g0) (l0 : px_lg lv 0 = some (.inr (.inr (some 196)))) (l1 : px_lg lv 1 = some (.inl (nI i))) (l2 : px_lg lv 2 = some (.inl n)) {P : Option pv × pH → Prop} (hP : ∀ g : pH, J_ W h0 g → P (none, g)) : t_X d 190 0 lv [] g0 P := by
  have hcl : ¬ (nI i < 0 ∨ 32 ≤ (nI i).toNatClampNeg) := e_clamp (by rw [nI_toInt (by omega)]; omega) (by rw [nI_toInt (by omega)]; omega)
  have hf0 := gI_r (r := 228) hJ.1 el_196 (Nat.le_of_ble_eq_true rfl) (y := 48) rfl eg_f48
  refine t_0 qf_0 rfl (ld_a l0) ?_
  refine t_0 qf_1 rfl (pget el_196 hf0) ?_
  refine t_0 qf_4 rfl rfl ?_
  refine t_0 qf_5 rfl (ld_i l1) ?_
  refine t_ia qf_6 hJ el_228 w228 (by rw [eg_a228]; exact ok_full32 _) (by decide +kernel) (fun g1 hJ _ _ _ => ?_)
  show t_X d 190 7 lv [] g1 P
  have hf1 := gI_r (r := 228) hJ.1 el_196 (Nat.le_of_ble_eq_true rfl) (y := 48) rfl eg_f48
  refine t_0 qf_7 rfl (ld_a l0) ?_
  refine t_0 qf_8 rfl (pget el_196 hf1) ?_
  refine t_0 qf_11 rfl rfl ?_
  refine t_0 qf_12 rfl (ld_a l0) ?_
  have hv13 := gI_r (r := 199) hJ.1 el_196 (Nat.le_of_ble_eq_true rfl) (y := 4) rfl eg_g4
  refine t_0 qf_13 rfl (pget el_196 hv13) ?_
  refine t_0 qf_16 rfl (ld_i l1) ?_
  refine t_0 qf_17 rfl (piald (by decide) el_199 hcl) ?_
  refine t_ia qf_18 hJ el_228 w228 (by rw [eg_a228]; exact ok_full32 _) (by decide +kernel) (fun g2 hJ _ _ _ => ?_)
  show t_X d 190 19 lv [] g2 P
  have hf2 := gI_r (r := 228) hJ.1 el_196 (Nat.le_of_ble_eq_true rfl) (y := 48) rfl eg_f48
  refine t_0 qf_19 rfl (ld_a l0) ?_
  refine t_0 qf_20 rfl (pget el_196 hf2) ?_
  refine t_0 qf_23 rfl rfl ?_
  refine t_0 qf_24 rfl (ld_a l0) ?_
  have hv25 := gI_r (r := 200) hJ.1 el_196 (Nat.le_of_ble_eq_true rfl) (y := 5) rfl eg_g5
  refine t_0 qf_25 rfl (pget el_196 hv25) ?_
  refine t_0 qf_28 rfl (ld_i l1) ?_
  refine t_0 qf_29 rfl (piald (by decide) el_200 hcl) ?_
  refine t_ia qf_30 hJ el_228 w228 (by rw [eg_a228]; exact ok_full32 _) (by decide +kernel) (fun g3 hJ _ _ _ => ?_)
  show t_X d 190 31 lv [] g3 P
  have hf3 := gI_r (r := 228) hJ.1 el_196 (Nat.le_of_ble_eq_true rfl) (y := 48) rfl eg_f48
  refine t_0 qf_31 rfl (ld_a l0) ?_
  refine t_0 qf_32 rfl (pget el_196 hf3) ?_
  refine t_0 qf_35 rfl rfl ?_
  refine t_0 qf_36 rfl (ld_a l0) ?_
  have hv37 := gI_r (r := 202) hJ.1 el_196 (Nat.le_of_ble_eq_true rfl) (y := 7) rfl eg_g7
  refine t_0 qf_37 rfl (pget el_196 hv37) ?_
  refine t_0 qf_40 rfl (ld_i l1) ?_
  refine t_0 qf_41 rfl (piald (by decide) el_202 hcl) ?_
  refine t_ia qf_42 hJ el_228 w228 (by rw [eg_a228]; exact ok_full32 _) (by decide +kernel) (fun g4 hJ _ _ _ => ?_)
  show t_X d 190 43 lv [] g4 P
  have hf4 := gI_r (r := 228) hJ.1 el_196 (Nat.le_of_ble_eq_true rfl) (y := 48) rfl eg_f48
  refine t_0 qf_43 rfl (ld_a l0) ?_
  refine t_0 qf_44 rfl (pget el_196 hf4) ?_
  refine t_0 qf_47 rfl rfl ?_
  refine t_0 qf_48 rfl (ld_i l2) ?_
  refine t_0 qf_49 rfl rfl ?_
  refine t_0 qf_50 rfl (pirem (by decide +kernel)) ?_
  refine t_ia qf_51 hJ el_228 w228 (by rw [eg_a228]; exact ok_full32 _) (by decide +kernel) (fun g5 hJ _ _ _ => ?_)
  show t_X d 190 52 lv [] g5 P
  have hf5 := gI_r (r := 228) hJ.1 el_196 (Nat.le_of_ble_eq_true rfl) (y := 48) rfl eg_f48
  refine t_0 qf_52 rfl (ld_a l0) ?_
  refine t_0 qf_53 rfl (pget el_196 hf5) ?_
  refine t_0 qf_56 rfl rfl ?_
  refine t_0 qf_57 rfl (ld_i l2) ?_
  refine t_0 qf_58 rfl rfl ?_
  refine t_0 qf_59 rfl (pidiv (by decide +kernel)) ?_
  refine t_ia qf_60 hJ el_228 w228 (by rw [eg_a228]; exact ok_full32 _) (by decide +kernel) (fun g6 hJ _ _ _ => ?_)
  show t_X d 190 61 lv [] g6 P
  have hf6 := gI_r (r := 228) hJ.1 el_196 (Nat.le_of_ble_eq_true rfl) (y := 48) rfl eg_f48
  refine t_0 qf_61 rfl (ld_a l0) ?_
  refine t_0 qf_62 rfl (pget el_196 hf6) ?_
  refine t_0 qf_65 rfl rfl ?_
  refine t_0 qf_67 rfl (ld_a l0) ?_
  refine t_0 qf_68 rfl (pget el_196 (pFi rfl)) ?_
  refine t_ia qf_71 hJ el_228 w228 (by rw [eg_a228]; exact ok_full32 _) (by decide +kernel) (fun g7 hJ _ _ _ => ?_)
  show t_X d 190 72 lv [] g7 P
  have hf7 := gI_r (r := 228) hJ.1 el_196 (Nat.le_of_ble_eq_true rfl) (y := 48) rfl eg_f48
  refine t_0 qf_72 rfl (ld_a l0) ?_
  refine t_0 qf_73 rfl (pget el_196 hf7) ?_
  refine t_0 qf_76 rfl rfl ?_
  refine t_0 qf_78 rfl (ld_a l0) ?_
  have hv79 := gI_r (r := 201) hJ.1 el_196 (Nat.le_of_ble_eq_true rfl) (y := 6) rfl eg_g6
  refine t_0 qf_79 rfl (pget el_196 hv79) ?_
  refine t_0 qf_82 rfl (ld_i l1) ?_
  refine t_0 qf_83 rfl (piald (by decide) el_201 hcl) ?_
  refine t_ia qf_84 hJ el_228 w228 (by rw [eg_a228]; exact ok_full32 _) (by decide +kernel) (fun g8 hJ _ _ _ => ?_)
  show t_X d 190 85 lv [] g8 P
  have hf8 := gI_r (r := 228) hJ.1 el_196 (Nat.le_of_ble_eq_true rfl) (y := 48) rfl eg_f48
  refine t_0 qf_85 rfl (ld_a l0) ?_
  refine t_0 qf_86 rfl (pget el_196 hf8) ?_
  refine t_0 qf_89 rfl rfl ?_
  refine t_0 qf_91 rfl rfl ?_
  refine t_ia qf_92 hJ el_228 w228 (by rw [eg_a228]; exact ok_full32 _) (by decide +kernel) (fun g9 hJ _ _ _ => ?_)
  show t_X d 190 93 lv [] g9 P
  have hf9 := gI_r (r := 228) hJ.1 el_196 (Nat.le_of_ble_eq_true rfl) (y := 48) rfl eg_f48
  refine t_0 qf_93 rfl (ld_a l0) ?_
  refine t_0 qf_94 rfl (pget el_196 hf9) ?_
  refine t_0 qf_97 rfl rfl ?_
  refine t_0 qf_99 rfl rfl ?_
  refine t_ia qf_100 hJ el_228 w228 (by rw [eg_a228]; exact ok_full32 _) (by decide +kernel) (fun g10 hJ _ _ _ => ?_)
  show t_X d 190 101 lv [] g10 P
  have hf10 := gI_r (r := 228) hJ.1 el_196 (Nat.le_of_ble_eq_true rfl) (y := 48) rfl eg_f48
  refine t_0 qf_101 rfl (ld_a l0) ?_
  refine t_0 qf_102 rfl (pget el_196 hf10) ?_
  refine t_0 qf_105 rfl rfl ?_
  refine t_0 qf_107 rfl rfl ?_
  refine t_ia qf_108 hJ el_228 w228 (by rw [eg_a228]; exact ok_full32 _) (by decide +kernel) (fun g11 hJ _ _ _ => ?_)
  show t_X d 190 109 lv [] g11 P
  have hf11 := gI_r (r := 228) hJ.1 el_196 (Nat.le_of_ble_eq_true rfl) (y := 48) rfl eg_f48
  refine t_5 qf_109 rfl rfl ?_
  exact hP _ hJ
end
section
/-! by hand: calls by the contracts of the table; asks (printed in part by wip/e2/ak.py) -/
theorem qa_0 : xe_look (xc 169) 0 = some (.aload_n 0, 1, 0, 0, 0) := by decide +kernel
theorem qa_1 : xe_look (xc 169) 1 = some (.iload_n 1, 1, 0, 0, 0) := by decide +kernel
theorem qa_2 : xe_look (xc 169) 2 = some (.iload_n 2, 1, 0, 0, 0) := by decide +kernel
theorem qa_3 : xe_look (xc 169) 3 = some (.invokevirtual 375, 3, 0, 190, 1122) := by decide +kernel
theorem qa_6 : xe_look (xc 169) 6 = some (.aload_n 0, 1, 0, 0, 0) := by decide +kernel
theorem qa_7 : xe_look (xc 169) 7 = some (.iload_n 3, 1, 0, 0, 0) := by decide +kernel
theorem qa_8 : xe_look (xc 169) 8 = some (.iload 4, 2, 0, 0, 0) := by decide +kernel
theorem qa_10 : xe_look (xc 169) 10 = some (.invokevirtual 378, 3, 0, 173, 1123) := by decide +kernel
theorem qa_13 : xe_look (xc 169) 13 = some (.ireturn, 1, 0, 0, 0) := by decide +kernel
theorem k_use {G : Nat → eE} {X : pH → Prop} {k : eK} {d : Nat} (hS : k_S G X k d) {vs : List pv} {h : pH} {xs ys : List Int} {m : Int} (hG : g_I G h) (hx : X h) (hM : m_M k.2.1 d (px_ar 0 vs) h xs ys) (hd : d ≤ 1000000) (hev : ev_t ((d : Int) :: (xs ++ ys)) k.2.2.1 m) (hm : m ≤ d) {P : Option pv × pH → Prop} (hP : ∀ o : Option pv × pH, g_I G o.2 → X o.2 → f_M k.2.2.2.1 h o.2 → (∃ p ∈ k.2.2.2.2, ∃ zs, m_P p ((d : Int) :: (xs ++ ys)) o.1 o.2 zs) → P o) : t_X d k.1 0 (px_ar 0 vs) [] h P := by
  obtain ⟨n, o, a1, a2, a3, a4, a5⟩ := hS vs h xs ys m hG hx hM hd hev hm
  exact ⟨n, o, a1, hP o a2 a3 a4 a5⟩
theorem pcal_v2 {i y k : Nat} {a b : pv} {r : List pv} (h1 : (xm y).2.2.2.2.2.2.2 = 1) (hn : (xm y).2.2.2.2.2.1 = 2) (hk : eL[k]? = some (0, (xm y).2.2.2.2.2.2.1)) : px_cal eL (.invokevirtual i) 0 y (b :: a :: .inr (.inr (some k)) :: r) = some ([.inr (.inr (some k)), a, b], r) := by
  unfold px_cal
  dsimp only
  rw [if_pos ⟨rfl, h1, by rw [hn]; exact Nat.le_add_left 2 _⟩, hn]
  show (if eL[k]? = some (0, (xm y).2.2.2.2.2.2.1) then _ else _) = _
  rw [if_pos hk]
  rfl
theorem in_187 : kk_187 ∈ eKT 173 := List.mem_singleton.mpr rfl
theorem ok_this : ok_v (cv (.inr (.inr (some 196)))) (0, 100000, [197]) := ⟨by decide, by decide, Or.inr (List.mem_singleton.mpr rfl)⟩
set_option maxHeartbeats 4000000 in
theorem asks_run {X : pH → Prop} (hX : x_K X eDX) {d W : Nat} (hK : k_I eG X eKT d) (hd : 10 ≤ d) (hd2 : d ≤ 1000000) {h0 g0 : pH} (hx0 : X h0) (hDX : W &&& eDX = 0) (hV : kk_187.2.2.2.1 &&& W = kk_187.2.2.2.1) (w228 : W.testBit (cn 228) = true) (hJ : J_ W h0 g0) {lv : List (Nat × pv)} {i : Nat} (hi : i < 32) {n a b : Int32} (hb : 0 ≤ b.toInt ∧ b.toInt ≤ 999) (l0 : px_lg lv 0 = some (.inr (.inr (some 196)))) (l1 : px_lg lv 1 = some (.inl (nI i))) (l2 : px_lg lv 2 = some (.inl n)) (l3 : px_lg lv 3 = some (.inl a)) (l4 : px_lg lv 4 = some (.inl b)) {P : Option pv × pH → Prop} (hP : ∀ (g : pH) (r : Int32), J_ W h0 g → P (some (.inl r), g)) : t_X d 169 0 lv [] g0 P := by
  refine t_0 qa_0 rfl (ld_a l0) ?_
  refine t_0 qa_1 rfl (ld_i l1) ?_
  refine t_0 qa_2 rfl (ld_i l2) ?_
  refine t_3 qa_3 rfl (ar := ([pvR 196, .inl (nI i), .inl n], [])) (pcal_v2 rfl rfl el_196) ⟨by omega, Nat.le_of_ble_eq_true rfl, Nat.le_of_ble_eq_true rfl, rfl⟩ ?_
  refine feels_run hi w228 hJ rfl rfl rfl (fun g hg => ?_)
  show t_X d 169 6 lv [] g P
  refine t_0 qa_6 rfl (ld_a l0) ?_
  refine t_0 qa_7 rfl (ld_i l3) ?_
  refine t_0 qa_8 rfl (ld_i l4) ?_
  refine t_3 qa_10 rfl (ar := ([pvR 196, .inl a, .inl b], [])) (pcal_v2 rfl rfl el_196) ⟨by omega, Nat.le_of_ble_eq_true rfl, Nat.le_of_ble_eq_true rfl, rfl⟩ ?_
  have hM : m_M kk_187.2.1 (d - 1) (px_ar 0 [pvR 196, .inl a, .inl b]) g [cv (pvR 196), a.toInt, b.toInt] [] := ⟨by show 8 ≤ d - 1; omega, ⟨⟨pvR 196, rfl, rfl, rfl, ok_this⟩, ⟨.inl a, rfl, rfl, rfl, ok_full32 a⟩, ⟨.inl b, rfl, rfl, rfl, hb.1, hb.2, Or.inl rfl⟩, trivial⟩, trivial, fun c hc => by cases hc⟩
  refine k_use (k := kk_187) (m := 0) (hK (d - 1) (by omega) 173 kk_187 in_187) hg.1 (hX _ _ _ hg.2 hDX hx0) hM (by omega) ⟨0, rfl, rfl⟩ (by omega) (fun o b1 b2 b3 b4 => ?_)
  obtain ⟨o1, o2⟩ := o
  obtain ⟨p, hp, zs, ⟨hr, -⟩⟩ := b4
  have hp := List.mem_singleton.mp hp
  subst hp
  obtain ⟨v, x, ys, e1, ⟨e2, -, -⟩, -, -⟩ := hr
  dsimp only at e1
  subst e1
  obtain ⟨r, rfl⟩ := ct_0 e2
  show t_X d 169 13 lv [.inl r] o2 P
  refine t_5 qa_13 rfl rfl ?_
  exact hP o2 r ⟨b1, f_M_tr hV hg.2 b3⟩
end
section
/-! by hand: laysTurns, its first loop (printed in part by wip/e2/l0.py) -/
theorem eg_a230 : eG (cn 230) = ((-2147483648), 2147483647, []) := by decide +kernel
theorem pcal_v4 {i y k : Nat} {a b e f : pv} {r : List pv} (h1 : (xm y).2.2.2.2.2.2.2 = 1) (hn : (xm y).2.2.2.2.2.1 = 4) (hk : eL[k]? = some (0, (xm y).2.2.2.2.2.2.1)) : px_cal eL (.invokevirtual i) 0 y (f :: e :: b :: a :: .inr (.inr (some k)) :: r) = some ([.inr (.inr (some k)), a, b, e, f], r) := by
  unfold px_cal
  dsimp only
  rw [if_pos ⟨rfl, h1, by rw [hn]; exact Nat.le_add_left 4 _⟩, hn]
  show (if eL[k]? = some (0, (xm y).2.2.2.2.2.2.1) then _ else _) = _
  rw [if_pos hk]
  rfl
set_option maxHeartbeats 4000000 in
theorem l0_loop {X : pH → Prop} (hX : x_K X eDX) {d W : Nat} (hK : k_I eG X eKT d) (hd : 12 ≤ d) (hd2 : d ≤ 1000000) {h0 : pH} (hx0 : X h0) (hDX : W &&& eDX = 0) (hV : kk_187.2.2.2.1 &&& W = kk_187.2.2.2.1) (w228 : W.testBit (cn 228) = true) (w230 : W.testBit (cn 230) = true) {i : Nat} (hi : i < 32) {P : Option pv × pH → Prop} (hC : ∀ (g : pH) (lv : List (Nat × pv)), J_ W h0 g → px_lg lv 0 = some (.inr (.inr (some 196))) → px_lg lv 1 = some (.inl (nI i)) → t_X d 216 30 lv [] g P) : ∀ (m j : Nat) (g : pH) (lv : List (Nat × pv)), j + m = 8 → J_ W h0 g → px_lg lv 0 = some (.inr (.inr (some 196))) → px_lg lv 1 = some (.inl (nI i)) → px_lg lv 2 = some (.inl (nI j)) → t_X d 216 2 lv [] g P := by
  intro m
  induction m with
  | zero =>
    intro j g lv hj hJ l0 l1 l2
    have hlt : ¬ nI j < (Int8.ofInt (8)).toInt32 := by
      rw [show j = 8 by omega]
      decide +kernel
    refine t_0 ql_2 rfl (ld_i l2) ?_
    refine t_0 ql_3 rfl rfl ?_
    refine t_1 ql_5 rfl (pc_ge_t (pc := 5) (by decide) hlt) ?_
    exact hC g lv hJ l0 l1
  | succ m ih =>
    intro j g lv hj hJ l0 l1 l2
    have hlt : nI j < (Int8.ofInt (8)).toInt32 := by
      have : ∀ j, j < 8 → nI j < (Int8.ofInt (8)).toInt32 := by decide +kernel
      exact this j (by omega)
    have hcl : ¬ (nI j < 0 ∨ 8 ≤ (nI j).toNatClampNeg) := e_clamp (by rw [nI_toInt (by omega)]; omega) (by rw [nI_toInt (by omega)]; omega)
    have ht := gI_r (r := 230) hJ.1 el_196 (Nat.le_of_ble_eq_true rfl) (y := 56) rfl eg_f56
    refine t_0 ql_2 rfl (ld_i l2) ?_
    refine t_0 ql_3 rfl rfl ?_
    refine t_1 ql_5 rfl (pc_ge_f (pc := 5) (by decide) hlt) ?_
    show t_X d 216 8 lv [] g P
    refine t_0 ql_8 rfl (ld_a l0) ?_
    refine t_0 ql_9 rfl (pget el_196 ht) ?_
    refine t_0 ql_12 rfl (ld_i l2) ?_
    refine t_0 ql_13 rfl (ld_a l0) ?_
    refine t_0 ql_14 rfl (ld_i l1) ?_
    refine t_0 ql_15 rfl (ld_i l2) ?_
    refine t_0 ql_16 rfl rfl ?_
    refine t_0 ql_18 rfl rfl ?_
    refine t_3 ql_20 rfl (ar := ([pvR 196, .inl (nI i), .inl (nI j), .inl ((Int8.ofInt (116)).toInt32), .inl ((Int8.ofInt (99)).toInt32)], [.inl (nI j), pvR 230])) (pcal_v4 rfl rfl el_196) ⟨by omega, Nat.le_of_ble_eq_true rfl, Nat.le_of_ble_eq_true rfl, rfl⟩ ?_
    refine asks_run hX (fun d' h' => hK d' (by omega)) (by omega) (by omega) hx0 hDX hV w228 hJ hi (by decide +kernel) rfl rfl rfl rfl rfl (fun g1 r hJ1 => ?_)
    show t_X d 216 23 lv [.inl r, .inl (nI j), pvR 230] g1 P
    refine t_ia ql_23 hJ1 el_230 w230 (by rw [eg_a230]; exact ok_full32 _) hcl (fun g2 hJ2 _ _ _ => ?_)
    show t_X d 216 24 lv [] g2 P
    refine t_2 ql_24 rfl (w := (px_s1 lv 2 (.inl ((nI j) + Int32.ofInt (1))), [])) (pinc l2 (by decide)) ?_
    replace l0 : px_lg (px_s1 lv 2 (.inl ((nI j) + Int32.ofInt (1)))) 0 = some (.inr (.inr (some 196))) := s1_ne (by decide) (fun _ => rfl) l0
    replace l1 : px_lg (px_s1 lv 2 (.inl ((nI j) + Int32.ofInt (1)))) 1 = some (.inl (nI i)) := s1_ne (by decide) (fun _ => rfl) l1
    have l2 : px_lg (px_s1 lv 2 (.inl ((nI j) + Int32.ofInt (1)))) 2 = some (.inl ((nI j) + Int32.ofInt (1))) := s1_eq
    generalize px_s1 lv 2 (.inl ((nI j) + Int32.ofInt (1))) = lv1 at l0 l1 l2 ⊢
    show t_X d 216 27 lv1 [] g2 P
    refine t_1 ql_27 rfl (pb_goto (pc := 27) (by decide)) ?_
    show t_X d 216 2 lv1 [] g2 P
    rw [j_inc (by omega)] at l2
    exact ih (j + 1) _ _ (by omega) hJ2 l0 l1 l2
end
section
/-! by hand: laysTurns, between its loops -/
theorem in_68 : kk_68 ∈ eKT 166 := List.mem_singleton.mpr rfl
theorem eg_f61 : eG (cn 196 + 61) = (0, 255, []) := by decide +kernel
theorem c0_0 : (Int32.ofInt 0).toNatClampNeg = 0 := by decide +kernel
set_option maxHeartbeats 4000000 in
theorem l0_mid {X : pH → Prop} (hX : x_K X eDX) {d W : Nat} (hK : k_I eG X eKT d) (hd : 12 ≤ d) (hd2 : d ≤ 1000000) {h0 : pH} (hx0 : X h0) (hDX : W &&& eDX = 0) (w231 : W.testBit (cn 231) = true) (w232 : W.testBit (cn 232) = true) (w233 : W.testBit (cn 233) = true) (w234 : W.testBit (cn 234) = true) (w61 : W.testBit (cn 196 + 61) = true) (w62 : W.testBit (cn 196 + 62) = true) {i : Nat} (hi : i < 32) {P : Option pv × pH → Prop} (hP : ∀ g : pH, J_ W h0 g → P (none, g)) {g : pH} {lv : List (Nat × pv)} (hJ : J_ W h0 g) (l0 : px_lg lv 0 = some (.inr (.inr (some 196)))) (l1 : px_lg lv 1 = some (.inl (nI i))) : t_X d 216 30 lv [] g P := by
  refine t_0 ql_30 rfl (ld_a l0) ?_
  refine t_0 ql_31 rfl (ld_a l0) ?_
  refine t_0 ql_32 rfl (ld_i l1) ?_
  refine t_0 ql_33 rfl rfl ?_
  refine t_3 ql_34 rfl (ar := ([pvR 196, .inl (nI i), .inl (Int32.ofInt 0)], [pvR 196])) (pcal_v2 rfl rfl el_196) ⟨by omega, Nat.le_of_ble_eq_true rfl, Nat.le_of_ble_eq_true rfl, rfl⟩ ?_
  have hM : m_M kk_68.2.1 (d - 1) (px_ar 0 [pvR 196, .inl (nI i), .inl (Int32.ofInt 0)]) g [cv (pvR 196), (nI i).toInt, (Int32.ofInt 0).toInt] [] := ⟨by show 3 ≤ d - 1; omega, ⟨⟨pvR 196, rfl, rfl, rfl, ok_this⟩, ⟨.inl (nI i), rfl, rfl, rfl, by rw [nI_toInt (by omega)]; exact ⟨by show (0 : Int) ≤ i; omega, by show (i : Int) ≤ 31; omega, Or.inl rfl⟩⟩, ⟨.inl (Int32.ofInt 0), rfl, rfl, rfl, by decide, by decide, Or.inl rfl⟩, trivial⟩, trivial, fun c hc => by cases hc⟩
  refine k_use (k := kk_68) (m := 0) (hK (d - 1) (by omega) 166 kk_68 in_68) hJ.1 (hX _ _ _ hJ.2 hDX hx0) hM (by omega) ⟨0, rfl, rfl⟩ (by omega) (fun o b1 b2 b3 b4 => ?_)
  obtain ⟨o1, o2⟩ := o
  obtain ⟨p, hp, zs, ⟨hr, -⟩⟩ := b4
  have hp := List.mem_singleton.mp hp
  subst hp
  obtain ⟨v, x, ys, e1, ⟨e2, e3, e4⟩, -, -⟩ := hr
  dsimp only at e1
  subst e1
  obtain ⟨r, rfl⟩ := ct_0 e2
  subst e3
  have hJ1 : J_ W h0 o2 := ⟨b1, f_M_tr (Nat.zero_and W) hJ.2 b3⟩
  show t_X d 216 37 lv [.inl r, pvR 196] o2 P
  refine t_4 ql_37 rfl (pputi el_196 rfl) ?_
  have hJ2 := J_puti (n := r) hJ1 el_196 (y := 61) rfl w61 (by rw [eg_f61]; exact e4)
  generalize (pu o2.1 196 61 r, o2.2) = g2 at hJ2 ⊢
  show t_X d 216 40 lv [] g2 P
  refine t_0 ql_40 rfl (ld_a l0) ?_
  refine t_0 ql_41 rfl rfl ?_
  refine t_4 ql_44 rfl (pputl el_196 rfl) ?_
  have hJ3 := J_putl (n := xe_k 9223372036854775807) hJ2 el_196 (y := 62) rfl w62 (by rw [eg_f62]; exact ok_full64 _)
  generalize (g2.1, pu g2.2.1 196 62 (xe_k 9223372036854775807), g2.2.2) = g3 at hJ3 ⊢
  show t_X d 216 47 lv [] g3 P
  have hs := gI_r (r := 233) hJ3.1 el_196 (Nat.le_of_ble_eq_true rfl) (y := 59) rfl eg_f59
  refine t_0 ql_47 rfl (ld_a l0) ?_
  refine t_0 ql_48 rfl (pget el_196 hs) ?_
  refine t_0 ql_51 rfl rfl ?_
  refine t_0 ql_52 rfl rfl ?_
  refine t_ia ql_53 hJ3 el_233 w233 (by rw [eg_a233]; exact ok_full32 _) (by decide +kernel) (fun g4 hJ4 _ _ _ => ?_)
  show t_X d 216 54 lv [] g4 P
  have hc := gI_r (r := 234) hJ4.1 el_196 (Nat.le_of_ble_eq_true rfl) (y := 60) rfl eg_f60
  refine t_0 ql_54 rfl (ld_a l0) ?_
  refine t_0 ql_55 rfl (pget el_196 hc) ?_
  refine t_0 ql_58 rfl rfl ?_
  refine t_0 ql_59 rfl rfl ?_
  refine t_ia ql_60 hJ4 el_234 w234 (by rw [eg_a234]; exact ok_full32 _) (by decide +kernel) (fun g5 hJ5 _ c2 _ => ?_)
  show t_X d 216 61 lv [] g5 P
  have hr := gI_r (r := 231) hJ5.1 el_196 (Nat.le_of_ble_eq_true rfl) (y := 57) rfl eg_f57
  refine t_0 ql_61 rfl (ld_a l0) ?_
  refine t_0 ql_62 rfl (pget el_196 hr) ?_
  refine t_0 ql_65 rfl rfl ?_
  refine t_0 ql_66 rfl rfl ?_
  refine t_ia ql_67 hJ5 el_231 w231 (by rw [eg_a231]; exact ok_full32 _) (by decide +kernel) (fun g6 hJ6 d1 d2 _ => ?_)
  show t_X d 216 68 lv [] g6 P
  refine t_0 ql_68 rfl rfl ?_
  refine t_2 ql_69 rfl (w := (px_s1 lv 2 (.inl (Int32.ofInt 0)), [])) rfl ?_
  rw [c0_0] at c2 d2
  have z1 : rw_ g6 0 = 0 := by
    show (g6.2.2.2.1 231 0).toInt = 0
    rw [d2]
    decide +kernel
  refine lt_loop (by omega) w231 w232 w233 w234 w62 hP _ 0 g6 _ (Nat.le_refl _) (by omega) hJ6 (fun k hk => by omega) (by rw [z1]; decide) (fun k hk => ?_) (s1_ne (by decide) (fun _ => rfl) l0) s1_eq
  rw [show k = 0 by omega, d1 234 (by decide), c2]
  decide +kernel
end
section
/-! by hand: laysTurns, its contract -/
set_option maxHeartbeats 4000000 in
theorem h_186 {X : pH → Prop} (hX : x_K X eDX) (d : Nat) (hK : k_I eG X eKT d) : k_S eG X kk_186 d := by
  intro vs h xs ys m hG hx hM hd9 _ _
  obtain ⟨hd4, hL, hF, -⟩ := hM
  have e9 := m_F_nil hF
  subst e9
  obtain ⟨x0, ys0, rfl, ⟨v0, a1, a2, a3, a4⟩, hL⟩ := m_L_cons hL
  obtain ⟨x1, ys1, rfl, ⟨v1, b1, b2, b3, b4⟩, hL⟩ := m_L_cons hL
  have e9 := m_L_nil hL
  subst e9
  obtain ⟨q, rfl⟩ := ct_2 a2
  obtain ⟨n, rfl⟩ := ct_0 b2
  subst a3 b3
  have eq := cv_r a4
  subst eq
  have b5 : 0 ≤ n.toInt := b4.1
  have b6 : n.toInt ≤ 31 := b4.2.1
  have hd5 : 16 ≤ d := hd4
  obtain ⟨i, hi, rfl⟩ := i_nI (n := 31) b5 b6 (by decide)
  have a1 : px_lg (px_ar 0 vs) 0 = some (.inr (.inr (some 196))) := a1
  have b1 : px_lg (px_ar 0 vs) 1 = some (.inl (nI i)) := b1
  have hDX : kk_186.2.2.2.1 &&& eDX = 0 := by decide +kernel
  show t_X d 216 0 (px_ar 0 vs) [] h (fun o => g_I eG o.2 ∧ X o.2 ∧ f_M kk_186.2.2.2.1 h o.2 ∧ ∃ p ∈ kk_186.2.2.2.2, ∃ zs, m_P p ((d : Int) :: ([cv (.inr (.inr (some 196))), cv (.inl (nI i))] ++ [])) o.1 o.2 zs)
  refine t_0 ql_0 rfl rfl ?_
  refine t_2 ql_1 rfl (w := (px_s1 (px_ar 0 vs) 2 (.inl (Int32.ofInt 1)), [])) rfl ?_
  refine l0_loop hX hK (by omega) hd9 hx hDX (by decide +kernel) (by decide +kernel) (by decide +kernel) (i := i) (by omega) (fun g lv hJ l0 l1 => ?_) 7 1 h _ rfl ⟨hG, f_M_rf _ _⟩ (s1_ne (by decide) (fun _ => rfl) a1) (s1_ne (by decide) (fun _ => rfl) b1) s1_eq
  exact l0_mid hX hK (by omega) hd9 hx hDX (by decide +kernel) (by decide +kernel) (by decide +kernel) (by decide +kernel) (by decide +kernel) (by decide +kernel) (i := i) (by omega) (fun g hg => ⟨hg.1, hX _ _ _ hg.2 hDX hx, hg.2, _, List.mem_cons_self .., [], ⟨rfl, [], rfl, trivial⟩, fun c hc => by cases hc⟩) hJ l0 l1
end
section
/-! by hand: rules over Int -/
abbrev oI (e : Int) : pv := .inl (Int32.ofInt e)
def fF (h : pH) (y : Nat) : Int := (h.1 196 y).toInt
def fA (h : pH) (k j : Nat) : Int := (h.2.2.2.1 k j).toInt
theorem oT {e : Int} (h0 : -2147483648 ≤ e) (h1 : e ≤ 2147483647) : (Int32.ofInt e).toInt = e := Int32.toInt_ofInt_of_le (by omega) (by omega)
theorem i32_b (x : Int32) : -2147483648 ≤ x.toInt ∧ x.toInt ≤ 2147483647 := ⟨by have := x.le_toInt; omega, by have := x.toInt_lt; omega⟩
theorem fF_b (h : pH) (y : Nat) : -2147483648 ≤ fF h y ∧ fF h y ≤ 2147483647 := i32_b _
theorem fA_b (h : pH) (k j : Nat) : -2147483648 ≤ fA h k j ∧ fA h k j ≤ 2147483647 := i32_b _
theorem oI_r (x : Int32) : (.inl x : pv) = oI x.toInt := congrArg Sum.inl (Int32.ofInt_toInt x).symm
theorem ne_oI {b : Int} (h : -2147483648 ≤ b ∧ b ≤ 2147483647) (hb : b ≠ 0) : ¬ Int32.ofInt b = 0 := fun z => hb (by
  have := congrArg Int32.toInt z
  rw [oT h.1 h.2] at this
  exact this)
theorem lt_oI {a b : Int} (ha : -2147483648 ≤ a ∧ a ≤ 2147483647) (hb : -2147483648 ≤ b ∧ b ≤ 2147483647) : Int32.ofInt a < Int32.ofInt b ↔ a < b := by
  rw [Int32.lt_iff_toInt_lt, oT ha.1 ha.2, oT hb.1 hb.2]
theorem eq_oI {a b : Int} (ha : -2147483648 ≤ a ∧ a ≤ 2147483647) (hb : -2147483648 ≤ b ∧ b ≤ 2147483647) : Int32.ofInt a = Int32.ofInt b ↔ a = b := by
  rw [← Int32.toInt_inj, oT ha.1 ha.2, oT hb.1 hb.2]
theorem z_oI : (0 : Int32) = Int32.ofInt 0 := by decide
theorem fA_2 {g g1 : pH} (h : g1.2 = g.2) : fA g1 = fA g := by
  unfold fA
  rw [h]
theorem fF_1 {g g1 : pH} (h : g1.1 = g.1) : fF g1 = fF g := by
  unfold fF
  rw [h]
section RU
variable {d x y : Nat} {lv : List (Nat × pv)} {h : pH} {r : List pv} {a b : Int}
theorem pq_add : px_push eL d none .iadd x y lv (oI b :: oI a :: r) h = some (oI (a + b) :: r) := by
  show some ((.inl (Int32.ofInt a + Int32.ofInt b) : pv) :: r) = some ((.inl (Int32.ofInt (a + b)) : pv) :: r)
  rw [Int32.ofInt_add]
theorem pq_sub : px_push eL d none .isub x y lv (oI b :: oI a :: r) h = some (oI (a - b) :: r) := by
  show some ((.inl (Int32.ofInt a - Int32.ofInt b) : pv) :: r) = some ((.inl (Int32.ofInt (a - b)) : pv) :: r)
  rw [Int32.ofInt_sub]
theorem pq_mul : px_push eL d none .imul x y lv (oI b :: oI a :: r) h = some (oI (a * b) :: r) := by
  show some ((.inl (Int32.ofInt a * Int32.ofInt b) : pv) :: r) = some ((.inl (Int32.ofInt (a * b)) : pv) :: r)
  rw [Int32.ofInt_mul]
theorem dv_oI (ha : 0 ≤ a ∧ a ≤ 2147483647) (hb : 0 < b ∧ b ≤ 2147483647) : Int32.ofInt a / Int32.ofInt b = Int32.ofInt (a / b) := by
  rw [← Int.tdiv_eq_ediv_of_nonneg ha.1]
  have e1 : Int32.minValue.toInt = -2147483648 := by decide
  have e2 : Int32.maxValue.toInt = 2147483647 := by decide
  exact (Int32.ofInt_tdiv (by omega) (by omega) (by omega) (by omega)).symm
theorem pq_div (ha : 0 ≤ a ∧ a ≤ 2147483647) (hb : 0 < b ∧ b ≤ 2147483647) : px_push eL d none .idiv x y lv (oI b :: oI a :: r) h = some (oI (a / b) :: r) := by
  show (if Int32.ofInt b = 0 then none else some ((.inl (Int32.ofInt a / Int32.ofInt b) : pv) :: r)) = _
  rw [if_neg (ne_oI ⟨by omega, hb.2⟩ (by omega)), dv_oI ha hb]
theorem pq_rem (ha : 0 ≤ a ∧ a ≤ 2147483647) (hb : 0 < b ∧ b ≤ 2147483647) : px_push eL d none .irem x y lv (oI b :: oI a :: r) h = some (oI (a % b) :: r) := by
  show (if Int32.ofInt b = 0 then none else some ((.inl (Int32.ofInt a - Int32.ofInt a / Int32.ofInt b * Int32.ofInt b) : pv) :: r)) = _
  rw [if_neg (ne_oI ⟨by omega, hb.2⟩ (by omega)), dv_oI ha hb, ← Int32.ofInt_mul, ← Int32.ofInt_sub, Int.emod_def, Int.mul_comm b]
theorem pq_dx (hb : -2147483648 ≤ b ∧ b ≤ 2147483647) (hn : b ≠ 0) : ∃ c : Int32, px_push eL d none .idiv x y lv (oI b :: oI a :: r) h = some (.inl c :: r) := ⟨_, if_neg (ne_oI hb hn)⟩
theorem pq_rx (hb : -2147483648 ≤ b ∧ b ≤ 2147483647) (hn : b ≠ 0) : ∃ c : Int32, px_push eL d none .irem x y lv (oI b :: oI a :: r) h = some (.inl c :: r) := ⟨_, if_neg (ne_oI hb hn)⟩
theorem pq_b {n : Int} (e : (Int8.ofInt n).toInt32 = Int32.ofInt n) : px_push eL d none (.bipush n) x y lv r h = some (oI n :: r) := by
  show some ((.inl (Int8.ofInt n).toInt32 : pv) :: r) = _
  rw [e]
theorem pq_s {n : Int} (e : (Int16.ofInt n).toInt32 = Int32.ofInt n) : px_push eL d none (.sipush n) x y lv r h = some (oI n :: r) := by
  show some ((.inl (Int16.ofInt n).toInt32 : pv) :: r) = _
  rw [e]
theorem pq_c {i : Nat} {n : Int} (e : xe_j y = Int32.ofInt n) : px_push eL d none (.ldc i) 0 y lv r h = some (oI n :: r) := by
  show (if 0 = 0 then some ((.inl (xe_j y) : pv) :: r) else if 0 = 1 ∧ y < 5 then some (.inr (.inr (some (1001 + y))) :: r) else none) = _
  rw [if_pos rfl, e]
theorem pq_cw {i : Nat} {n : Int} (e : xe_j y = Int32.ofInt n) : px_push eL d none (.ldc_w i) 0 y lv r h = some (oI n :: r) := by
  show (if 0 = 0 then some ((.inl (xe_j y) : pv) :: r) else none) = _
  rw [if_pos rfl, e]
theorem pq_gf {i : Nat} (ht : xk_ty 12 y = .int) : px_push eL d none (.getfield i) 12 y lv (pvR 196 :: r) h = some (oI (fF h y) :: r) := by
  rw [pget el_196 (pFi ht), oI_r]
  rfl
theorem pq_ia {k n : Nat} {e : Int} (hk : eL[k]? = some (1, n)) (hn : Nat.ble n 10000 = true) (he : 0 ≤ e ∧ e < n) : px_push eL d none .iaload x y lv (oI e :: pvR k :: r) h = some (oI (fA h k e.toNat) :: r) := by
  have hn := Nat.le_of_ble_eq_true hn
  have e1 : (Int32.ofInt e).toInt = e := oT (by omega) (by omega)
  rw [piald (eL_ne hk) hk (e_clamp (by rw [e1]; exact he.1) (by rw [e1]; omega)), oI_r]
  show some ((.inl (Int32.ofInt (fA h k (Int32.ofInt e).toInt.toNat)) : pv) :: r) = _
  rw [e1]
theorem pq_ba {k n : Nat} {e : Int} (hk : eL[k]? = some (2, n)) (hn : Nat.ble n 10000 = true) (he : 0 ≤ e ∧ e < n) : px_push eL d none .baload x y lv (oI e :: pvR k :: r) h = some (oI (fA h k e.toNat) :: r) := by
  have hn := Nat.le_of_ble_eq_true hn
  have e1 : (Int32.ofInt e).toInt = e := oT (by omega) (by omega)
  rw [pbald hk (e_clamp (by rw [e1]; exact he.1) (by rw [e1]; omega)), oI_r]
  show some ((.inl (Int32.ofInt (fA h k (Int32.ofInt e).toInt.toNat)) : pv) :: r) = _
  rw [e1]
theorem pq_inc {i L : Nat} {n : Int} (hl : px_lg lv i = some (oI a)) (hL : i < L) : px_of (.iinc i n) L lv r = some (px_s1 lv i (oI (a + n)), r) := by
  rw [pinc hl hL, ← Int32.ofInt_add]
end RU
section RV
variable {d μ pc x y z W : Nat} {lv : List (Nat × pv)} {g h0 : pH} {r : List pv} {a b o : Int} {P : Option pv × pH → Prop}
theorem tb_lt (hq : xe_look (xc μ) pc = some (.if_icmp .lt o, 3, 0, 0, 0)) (ho : 0 ≤ (pc : Int) + o) (ha : -2147483648 ≤ a ∧ a ≤ 2147483647) (hb : -2147483648 ≤ b ∧ b ≤ 2147483647) (ht : a < b → t_X d μ (px_tg pc o) lv r g P) (hf : b ≤ a → t_X d μ (pc + 3) lv r g P) : t_X d μ pc lv (oI b :: oI a :: r) g P := by
  by_cases k : a < b
  · exact t_1 hq rfl (pc_lt_t ho ((lt_oI ha hb).mpr k)) (ht k)
  · exact t_1 hq rfl (pc_lt_f ho (fun z => k ((lt_oI ha hb).mp z))) (hf (by omega))
theorem tz_lt (hq : xe_look (xc μ) pc = some (.ifCond .lt o, 3, 0, 0, 0)) (ho : 0 ≤ (pc : Int) + o) (ha : -2147483648 ≤ a ∧ a ≤ 2147483647) (ht : a < 0 → t_X d μ (px_tg pc o) lv r g P) (hf : 0 ≤ a → t_X d μ (pc + 3) lv r g P) : t_X d μ pc lv (oI a :: r) g P := by
  have q := (lt_oI (b := 0) ha ⟨by decide, by decide⟩)
  rw [← z_oI] at q
  by_cases k : a < 0
  · exact t_1 hq rfl (pb_lt_t ho (q.mpr k)) (ht k)
  · exact t_1 hq rfl (pb_lt_f ho (fun z => k (q.mp z))) (hf (by omega))
theorem tb_ge (hq : xe_look (xc μ) pc = some (.if_icmp .ge o, 3, 0, 0, 0)) (ho : 0 ≤ (pc : Int) + o) (ha : -2147483648 ≤ a ∧ a ≤ 2147483647) (hb : -2147483648 ≤ b ∧ b ≤ 2147483647) (ht : b ≤ a → t_X d μ (px_tg pc o) lv r g P) (hf : a < b → t_X d μ (pc + 3) lv r g P) : t_X d μ pc lv (oI b :: oI a :: r) g P := by
  by_cases k : a < b
  · exact t_1 hq rfl (pc_ge_f ho ((lt_oI ha hb).mpr k)) (hf (by omega))
  · exact t_1 hq rfl (pc_ge_t ho (fun z => k ((lt_oI ha hb).mp z))) (ht (by omega))
theorem tz_ge (hq : xe_look (xc μ) pc = some (.ifCond .ge o, 3, 0, 0, 0)) (ho : 0 ≤ (pc : Int) + o) (ha : -2147483648 ≤ a ∧ a ≤ 2147483647) (ht : 0 ≤ a → t_X d μ (px_tg pc o) lv r g P) (hf : a < 0 → t_X d μ (pc + 3) lv r g P) : t_X d μ pc lv (oI a :: r) g P := by
  have q := (lt_oI (b := 0) ha ⟨by decide, by decide⟩)
  rw [← z_oI] at q
  by_cases k : a < 0
  · exact t_1 hq rfl (pb_ge_f ho (q.mpr k)) (hf (by omega))
  · exact t_1 hq rfl (pb_ge_t ho (fun z => k (q.mp z))) (ht (by omega))
theorem tb_gt (hq : xe_look (xc μ) pc = some (.if_icmp .gt o, 3, 0, 0, 0)) (ho : 0 ≤ (pc : Int) + o) (ha : -2147483648 ≤ a ∧ a ≤ 2147483647) (hb : -2147483648 ≤ b ∧ b ≤ 2147483647) (ht : b < a → t_X d μ (px_tg pc o) lv r g P) (hf : a ≤ b → t_X d μ (pc + 3) lv r g P) : t_X d μ pc lv (oI b :: oI a :: r) g P := by
  by_cases k : b < a
  · exact t_1 hq rfl (pc_gt_t ho ((lt_oI hb ha).mpr k)) (ht k)
  · exact t_1 hq rfl (pc_gt_f ho (fun z => k ((lt_oI hb ha).mp z))) (hf (by omega))
theorem tz_gt (hq : xe_look (xc μ) pc = some (.ifCond .gt o, 3, 0, 0, 0)) (ho : 0 ≤ (pc : Int) + o) (ha : -2147483648 ≤ a ∧ a ≤ 2147483647) (ht : 0 < a → t_X d μ (px_tg pc o) lv r g P) (hf : a ≤ 0 → t_X d μ (pc + 3) lv r g P) : t_X d μ pc lv (oI a :: r) g P := by
  have q := (lt_oI (a := 0) ⟨by decide, by decide⟩ ha)
  rw [← z_oI] at q
  by_cases k : 0 < a
  · exact t_1 hq rfl (pb_gt_t ho (q.mpr k)) (ht k)
  · exact t_1 hq rfl (pb_gt_f ho (fun z => k (q.mp z))) (hf (by omega))
theorem tb_le (hq : xe_look (xc μ) pc = some (.if_icmp .le o, 3, 0, 0, 0)) (ho : 0 ≤ (pc : Int) + o) (ha : -2147483648 ≤ a ∧ a ≤ 2147483647) (hb : -2147483648 ≤ b ∧ b ≤ 2147483647) (ht : a ≤ b → t_X d μ (px_tg pc o) lv r g P) (hf : b < a → t_X d μ (pc + 3) lv r g P) : t_X d μ pc lv (oI b :: oI a :: r) g P := by
  by_cases k : b < a
  · exact t_1 hq rfl (pc_le_f ho ((lt_oI hb ha).mpr k)) (hf (by omega))
  · exact t_1 hq rfl (pc_le_t ho (fun z => k ((lt_oI hb ha).mp z))) (ht (by omega))
theorem tz_le (hq : xe_look (xc μ) pc = some (.ifCond .le o, 3, 0, 0, 0)) (ho : 0 ≤ (pc : Int) + o) (ha : -2147483648 ≤ a ∧ a ≤ 2147483647) (ht : a ≤ 0 → t_X d μ (px_tg pc o) lv r g P) (hf : 0 < a → t_X d μ (pc + 3) lv r g P) : t_X d μ pc lv (oI a :: r) g P := by
  have q := (lt_oI (a := 0) ⟨by decide, by decide⟩ ha)
  rw [← z_oI] at q
  by_cases k : 0 < a
  · exact t_1 hq rfl (pb_le_f ho (q.mpr k)) (hf (by omega))
  · exact t_1 hq rfl (pb_le_t ho (fun z => k (q.mp z))) (ht (by omega))
theorem tb_eq (hq : xe_look (xc μ) pc = some (.if_icmp .eq o, 3, 0, 0, 0)) (ho : 0 ≤ (pc : Int) + o) (ha : -2147483648 ≤ a ∧ a ≤ 2147483647) (hb : -2147483648 ≤ b ∧ b ≤ 2147483647) (ht : a = b → t_X d μ (px_tg pc o) lv r g P) (hf : a ≠ b → t_X d μ (pc + 3) lv r g P) : t_X d μ pc lv (oI b :: oI a :: r) g P := by
  by_cases k : a = b
  · exact t_1 hq rfl (pc_eq_t ho ((eq_oI ha hb).mpr k)) (ht k)
  · exact t_1 hq rfl (pc_eq_f ho (fun z => k ((eq_oI ha hb).mp z))) (hf (by omega))
theorem tz_eq (hq : xe_look (xc μ) pc = some (.ifCond .eq o, 3, 0, 0, 0)) (ho : 0 ≤ (pc : Int) + o) (ha : -2147483648 ≤ a ∧ a ≤ 2147483647) (ht : a = 0 → t_X d μ (px_tg pc o) lv r g P) (hf : a ≠ 0 → t_X d μ (pc + 3) lv r g P) : t_X d μ pc lv (oI a :: r) g P := by
  have q := (eq_oI (b := 0) ha ⟨by decide, by decide⟩)
  rw [← z_oI] at q
  by_cases k : a = 0
  · exact t_1 hq rfl (pb_eq_t ho (q.mpr k)) (ht k)
  · exact t_1 hq rfl (pb_eq_f ho (fun z => k (q.mp z))) (hf (by omega))
theorem tb_ne (hq : xe_look (xc μ) pc = some (.if_icmp .ne o, 3, 0, 0, 0)) (ho : 0 ≤ (pc : Int) + o) (ha : -2147483648 ≤ a ∧ a ≤ 2147483647) (hb : -2147483648 ≤ b ∧ b ≤ 2147483647) (ht : a ≠ b → t_X d μ (px_tg pc o) lv r g P) (hf : a = b → t_X d μ (pc + 3) lv r g P) : t_X d μ pc lv (oI b :: oI a :: r) g P := by
  by_cases k : a = b
  · exact t_1 hq rfl (pc_ne_f ho ((eq_oI ha hb).mpr k)) (hf (by omega))
  · exact t_1 hq rfl (pc_ne_t ho (fun z => k ((eq_oI ha hb).mp z))) (ht (by omega))
theorem tz_ne (hq : xe_look (xc μ) pc = some (.ifCond .ne o, 3, 0, 0, 0)) (ho : 0 ≤ (pc : Int) + o) (ha : -2147483648 ≤ a ∧ a ≤ 2147483647) (ht : a ≠ 0 → t_X d μ (px_tg pc o) lv r g P) (hf : a = 0 → t_X d μ (pc + 3) lv r g P) : t_X d μ pc lv (oI a :: r) g P := by
  have q := (eq_oI (b := 0) ha ⟨by decide, by decide⟩)
  rw [← z_oI] at q
  by_cases k : a = 0
  · exact t_1 hq rfl (pb_ne_f ho (q.mpr k)) (hf (by omega))
  · exact t_1 hq rfl (pb_ne_t ho (fun z => k (q.mp z))) (ht (by omega))
theorem tw_f {i : Nat} {e lo hi : Int} (hq : xe_look (xc μ) pc = some (.putfield i, 3, 12, y, z)) (ht : xk_ty 12 y = .int) (hJ : J_ W h0 g) (hW : W.testBit (cn 196 + y) = true) (hg : eG (cn 196 + y) = (lo, hi, [])) (hr : -2147483648 ≤ lo ∧ hi ≤ 2147483647) (he : lo ≤ e ∧ e ≤ hi) (hP : ∀ g1 : pH, J_ W h0 g1 → fF g1 y = e → (∀ u, u ≠ y → fF g1 u = fF g u) → g1.2 = g.2 → t_X d μ (pc + 3) lv r g1 P) : t_X d μ pc lv (oI e :: pvR 196 :: r) g P := by
  have e1 : (Int32.ofInt e).toInt = e := oT (by omega) (by omega)
  refine t_4 hq rfl (pputi el_196 ht) (hP _ (J_puti hJ el_196 ht hW ?_) ?_ (fun u hu => ?_) rfl)
  · rw [e1, hg]
    exact ⟨he.1, he.2, Or.inl rfl⟩
  · show (pu g.1 196 y (Int32.ofInt e) 196 y).toInt = e
    rw [pu_at, e1]
  · show (pu g.1 196 y (Int32.ofInt e) 196 u).toInt = _
    rw [pu_nj _ _ hu]
    rfl
theorem tw_a {K n : Nat} {e j lo hi : Int} (hq : xe_look (xc μ) pc = some (.iastore, 1, x, y, z)) (hJ : J_ W h0 g) (hk : eL[K]? = some (1, n)) (hn : Nat.ble n 10000 = true) (hW : W.testBit (cn K) = true) (hg : eG (cn K) = (lo, hi, [])) (hr : -2147483648 ≤ lo ∧ hi ≤ 2147483647) (hj : 0 ≤ j ∧ j < n) (he : lo ≤ e ∧ e ≤ hi) (hP : ∀ g1 : pH, J_ W h0 g1 → (∀ k, k ≠ K → fA g1 k = fA g k) → fA g1 K j.toNat = e → (∀ u, u ≠ j.toNat → fA g1 K u = fA g K u) → g1.1 = g.1 → t_X d μ (pc + 1) lv r g1 P) : t_X d μ pc lv (oI e :: oI j :: pvR K :: r) g P := by
  have hn := Nat.le_of_ble_eq_true hn
  have e1 : (Int32.ofInt e).toInt = e := oT (by omega) (by omega)
  have e2 : (Int32.ofInt j).toInt = j := oT (by omega) (by omega)
  refine t_4 hq rfl (piast hk (e_clamp (by rw [e2]; exact hj.1) (by rw [e2]; omega))) (hP _ (J_ia hJ hk hW ?_) (fun k hk => ?_) ?_ (fun u hu => ?_) rfl)
  · rw [e1, hg]
    exact ⟨he.1, he.2, Or.inl rfl⟩
  · funext u
    show (pu g.2.2.2.1 K _ (Int32.ofInt e) k u).toInt = _
    rw [pu_ne _ _ hk]
    rfl
  · show (pu g.2.2.2.1 K (Int32.ofInt j).toInt.toNat (Int32.ofInt e) K j.toNat).toInt = e
    rw [e2, pu_at, e1]
  · show (pu g.2.2.2.1 K (Int32.ofInt j).toInt.toNat (Int32.ofInt e) K u).toInt = _
    rw [e2, pu_nj _ _ hu]
    rfl
theorem tw_ax {K n : Nat} {j : Int} {v : Int32} (hq : xe_look (xc μ) pc = some (.iastore, 1, x, y, z)) (hJ : J_ W h0 g) (hk : eL[K]? = some (1, n)) (hn : Nat.ble n 10000 = true) (hW : W.testBit (cn K) = true) (hg : eG (cn K) = (-2147483648, 2147483647, [])) (hj : 0 ≤ j ∧ j < n) (hP : ∀ g1 : pH, J_ W h0 g1 → (∀ k, k ≠ K → fA g1 k = fA g k) → g1.1 = g.1 → t_X d μ (pc + 1) lv r g1 P) : t_X d μ pc lv (.inl v :: oI j :: pvR K :: r) g P := by
  have e0 := i32_b v
  rw [oI_r v]
  exact tw_a hq hJ hk hn hW hg (by decide) hj e0 (fun g1 a1 a2 _ _ a5 => hP g1 a1 a2 a5)
end RV
theorem pq_rt {d x y : Nat} {lv : List (Nat × pv)} {h : pH} {r : List pv} {a b : Int} (ha : -2147483648 ≤ a ∧ a ≤ 2147483647) (hb : 0 < b ∧ b ≤ 2147483647) : ∃ c : Int, (-2147483648 ≤ c ∧ c < b) ∧ px_push eL d none .irem x y lv (oI b :: oI a :: r) h = some (oI c :: r) := by
  have e : (Int32.ofInt a - Int32.ofInt a / Int32.ofInt b * Int32.ofInt b).toInt = a.tmod b := by
    rw [rem_toInt, oT ha.1 ha.2, oT (by omega) hb.2]
  have e2 := i32_b (Int32.ofInt a - Int32.ofInt a / Int32.ofInt b * Int32.ofInt b)
  rw [e] at e2
  refine ⟨a.tmod b, ⟨e2.1, Int.tmod_lt_of_pos a hb.1⟩, ?_⟩
  show (if Int32.ofInt b = 0 then none else some ((.inl (Int32.ofInt a - Int32.ofInt a / Int32.ofInt b * Int32.ofInt b) : pv) :: r)) = _
  rw [if_neg (ne_oI ⟨by omega, hb.2⟩ (by omega)), oI_r, e]
theorem pq_la {d x y k n : Nat} {lv : List (Nat × pv)} {h : pH} {r : List pv} {j : Int32} (hk : eL[k]? = some (3, n)) (hj : 0 ≤ j.toInt ∧ j.toInt < n) : px_push eL d none .laload x y lv (.inl j :: pvR k :: r) h = some (.inr (.inl (h.2.2.2.2.1 k j.toInt.toNat)) :: r) := by
  show px_lald eL h (.inl j :: .inr (.inr (some k)) :: r) = _
  unfold px_lald
  dsimp only
  rw [hk]
  dsimp only
  rw [if_pos rfl, if_neg (e_clamp hj.1 (by omega))]
  rfl
section RW
variable {d μ pc x y z W : Nat} {lv : List (Nat × pv)} {g h0 : pH} {r : List pv} {a b : Int32} {o : Int} {P : Option pv × pH → Prop}
theorem tx_eq (hq : xe_look (xc μ) pc = some (.ifCond .eq o, 3, 0, 0, 0)) (ho : 0 ≤ (pc : Int) + o) (ht : a = 0 → t_X d μ (px_tg pc o) lv r g P) (hf : ¬ a = 0 → t_X d μ (pc + 3) lv r g P) : t_X d μ pc lv (.inl a :: r) g P := by
  by_cases k : a = 0
  · exact t_1 hq rfl (pb_eq_t ho k) (ht k)
  · exact t_1 hq rfl (pb_eq_f ho k) (hf k)
theorem tx_ne (hq : xe_look (xc μ) pc = some (.ifCond .ne o, 3, 0, 0, 0)) (ho : 0 ≤ (pc : Int) + o) (ht : ¬ a = 0 → t_X d μ (px_tg pc o) lv r g P) (hf : a = 0 → t_X d μ (pc + 3) lv r g P) : t_X d μ pc lv (.inl a :: r) g P := by
  by_cases k : a = 0
  · exact t_1 hq rfl (pb_ne_f ho k) (hf k)
  · exact t_1 hq rfl (pb_ne_t ho k) (ht k)
theorem tx_lt (hq : xe_look (xc μ) pc = some (.ifCond .lt o, 3, 0, 0, 0)) (ho : 0 ≤ (pc : Int) + o) (ht : a < 0 → t_X d μ (px_tg pc o) lv r g P) (hf : ¬ a < 0 → t_X d μ (pc + 3) lv r g P) : t_X d μ pc lv (.inl a :: r) g P := by
  by_cases k : a < 0
  · exact t_1 hq rfl (pb_lt_t ho k) (ht k)
  · exact t_1 hq rfl (pb_lt_f ho k) (hf k)
theorem tx_ge (hq : xe_look (xc μ) pc = some (.ifCond .ge o, 3, 0, 0, 0)) (ho : 0 ≤ (pc : Int) + o) (ht : ¬ a < 0 → t_X d μ (px_tg pc o) lv r g P) (hf : a < 0 → t_X d μ (pc + 3) lv r g P) : t_X d μ pc lv (.inl a :: r) g P := by
  by_cases k : a < 0
  · exact t_1 hq rfl (pb_ge_f ho k) (hf k)
  · exact t_1 hq rfl (pb_ge_t ho k) (ht k)
theorem tx_gt (hq : xe_look (xc μ) pc = some (.ifCond .gt o, 3, 0, 0, 0)) (ho : 0 ≤ (pc : Int) + o) (ht : 0 < a → t_X d μ (px_tg pc o) lv r g P) (hf : ¬ 0 < a → t_X d μ (pc + 3) lv r g P) : t_X d μ pc lv (.inl a :: r) g P := by
  by_cases k : 0 < a
  · exact t_1 hq rfl (pb_gt_t ho k) (ht k)
  · exact t_1 hq rfl (pb_gt_f ho k) (hf k)
theorem tx_le (hq : xe_look (xc μ) pc = some (.ifCond .le o, 3, 0, 0, 0)) (ho : 0 ≤ (pc : Int) + o) (ht : ¬ 0 < a → t_X d μ (px_tg pc o) lv r g P) (hf : 0 < a → t_X d μ (pc + 3) lv r g P) : t_X d μ pc lv (.inl a :: r) g P := by
  by_cases k : 0 < a
  · exact t_1 hq rfl (pb_le_f ho k) (hf k)
  · exact t_1 hq rfl (pb_le_t ho k) (ht k)
theorem tw_fx {i y z : Nat} {v : Int32} (hq : xe_look (xc μ) pc = some (.putfield i, 3, 12, y, z)) (ht : xk_ty 12 y = .int) (hJ : J_ W h0 g) (hW : W.testBit (cn 196 + y) = true) (hg : eG (cn 196 + y) = (-2147483648, 2147483647, [])) (hP : ∀ g1 : pH, J_ W h0 g1 → (∀ u, u ≠ y → fF g1 u = fF g u) → g1.2 = g.2 → t_X d μ (pc + 3) lv r g1 P) : t_X d μ pc lv (.inl v :: pvR 196 :: r) g P := by
  rw [oI_r v]
  exact tw_f hq ht hJ hW hg (by decide) (i32_b v) (fun g1 b1 _ b3 b4 => hP g1 b1 b3 b4)
theorem tw_l {K n : Nat} {v : Int64} {j : Int} (hq : xe_look (xc μ) pc = some (.lastore, 1, x, y, z)) (hJ : J_ W h0 g) (hk : eL[K]? = some (3, n)) (hn : Nat.ble n 10000 = true) (hW : W.testBit (cn K) = true) (hg : eG (cn K) = (-9223372036854775808, 9223372036854775807, [])) (hj : 0 ≤ j ∧ j < n) (hP : ∀ g1 : pH, J_ W h0 g1 → g1.1 = g.1 → g1.2.2.2.1 = g.2.2.2.1 → g1.2.2.2.2.1 K j.toNat = v → (∀ u, u ≠ j.toNat → g1.2.2.2.2.1 K u = g.2.2.2.2.1 K u) → t_X d μ (pc + 1) lv r g1 P) : t_X d μ pc lv (.inr (.inl v) :: oI j :: pvR K :: r) g P := by
  have hn := Nat.le_of_ble_eq_true hn
  have e2 : (Int32.ofInt j).toInt = j := oT (by omega) (by omega)
  have hc : ¬ (Int32.ofInt j < 0 ∨ n ≤ (Int32.ofInt j).toNatClampNeg) := e_clamp (by rw [e2]; exact hj.1) (by rw [e2]; omega)
  have h1 : px_wf .lastore eL d x y (.inr (.inl v) :: oI j :: pvR K :: r) g = some (r, (g.1, g.2.1, g.2.2.1, g.2.2.2.1, pu g.2.2.2.2.1 K (Int32.ofInt j).toNatClampNeg v, g.2.2.2.2.2)) := by
    show px_last eL g (.inr (.inl v) :: oI j :: pvR K :: r) = _
    unfold px_last
    dsimp only
    rw [hk]
    dsimp only
    rw [if_pos rfl, if_neg hc]
  have e3 : (Int32.ofInt j).toNatClampNeg = j.toNat := congrArg Int.toNat e2
  refine t_4 hq rfl h1 (hP _ ⟨g_I_l hJ.1 (by rw [hg]; exact ok_full64 v) hk, w_a_M w_a_l hJ.2 hW⟩ rfl rfl ?_ (fun u hu => ?_))
  · show pu g.2.2.2.2.1 K (Int32.ofInt j).toNatClampNeg v K j.toNat = v
    rw [e3, pu_at]
  · show pu g.2.2.2.2.1 K (Int32.ofInt j).toNatClampNeg v K u = _
    rw [e3, pu_nj _ _ hu]
end RW
theorem ff_2 : (eG (cn 196 + 2)).2.2 = [198] := by decide +kernel
theorem el_197 : eL[197]? = some (1, 42) := by decide +kernel
theorem ar_2 {d i : Nat} {lv : List (Nat × pv)} {r : List pv} {g : pH} (hG : g_I eG g) : px_push eL d none (.getfield i) 12 2 lv (pvR 196 :: r) g = some (pvR 197 :: r) := pget el_196 (gI_r (r := 197) hG el_196 (Nat.le_of_ble_eq_true rfl) (y := 2) rfl ff_2)
theorem ff_11 : (eG (cn 196 + 11)).2.2 = [207] := by decide +kernel
theorem el_206 : eL[206]? = some (1, 24) := by decide +kernel
theorem ar_11 {d i : Nat} {lv : List (Nat × pv)} {r : List pv} {g : pH} (hG : g_I eG g) : px_push eL d none (.getfield i) 12 11 lv (pvR 196 :: r) g = some (pvR 206 :: r) := pget el_196 (gI_r (r := 206) hG el_196 (Nat.le_of_ble_eq_true rfl) (y := 11) rfl ff_11)
theorem ff_12 : (eG (cn 196 + 12)).2.2 = [208] := by decide +kernel
theorem el_207 : eL[207]? = some (1, 24) := by decide +kernel
theorem ar_12 {d i : Nat} {lv : List (Nat × pv)} {r : List pv} {g : pH} (hG : g_I eG g) : px_push eL d none (.getfield i) 12 12 lv (pvR 196 :: r) g = some (pvR 207 :: r) := pget el_196 (gI_r (r := 207) hG el_196 (Nat.le_of_ble_eq_true rfl) (y := 12) rfl ff_12)
theorem ff_16 : (eG (cn 196 + 16)).2.2 = [212] := by decide +kernel
theorem ar_16 {d i : Nat} {lv : List (Nat × pv)} {r : List pv} {g : pH} (hG : g_I eG g) : px_push eL d none (.getfield i) 12 16 lv (pvR 196 :: r) g = some (pvR 211 :: r) := pget el_196 (gI_r (r := 211) hG el_196 (Nat.le_of_ble_eq_true rfl) (y := 16) rfl ff_16)
theorem ff_27 : (eG (cn 196 + 27)).2.2 = [213] := by decide +kernel
theorem el_212 : eL[212]? = some (1, 60) := by decide +kernel
theorem ar_27 {d i : Nat} {lv : List (Nat × pv)} {r : List pv} {g : pH} (hG : g_I eG g) : px_push eL d none (.getfield i) 12 27 lv (pvR 196 :: r) g = some (pvR 212 :: r) := pget el_196 (gI_r (r := 212) hG el_196 (Nat.le_of_ble_eq_true rfl) (y := 27) rfl ff_27)
theorem ff_28 : (eG (cn 196 + 28)).2.2 = [214] := by decide +kernel
theorem el_213 : eL[213]? = some (1, 60) := by decide +kernel
theorem ar_28 {d i : Nat} {lv : List (Nat × pv)} {r : List pv} {g : pH} (hG : g_I eG g) : px_push eL d none (.getfield i) 12 28 lv (pvR 196 :: r) g = some (pvR 213 :: r) := pget el_196 (gI_r (r := 213) hG el_196 (Nat.le_of_ble_eq_true rfl) (y := 28) rfl ff_28)
theorem ff_29 : (eG (cn 196 + 29)).2.2 = [215] := by decide +kernel
theorem el_214 : eL[214]? = some (1, 4) := by decide +kernel
theorem ar_29 {d i : Nat} {lv : List (Nat × pv)} {r : List pv} {g : pH} (hG : g_I eG g) : px_push eL d none (.getfield i) 12 29 lv (pvR 196 :: r) g = some (pvR 214 :: r) := pget el_196 (gI_r (r := 214) hG el_196 (Nat.le_of_ble_eq_true rfl) (y := 29) rfl ff_29)
theorem ff_30 : (eG (cn 196 + 30)).2.2 = [216] := by decide +kernel
theorem el_215 : eL[215]? = some (1, 4) := by decide +kernel
theorem ar_30 {d i : Nat} {lv : List (Nat × pv)} {r : List pv} {g : pH} (hG : g_I eG g) : px_push eL d none (.getfield i) 12 30 lv (pvR 196 :: r) g = some (pvR 215 :: r) := pget el_196 (gI_r (r := 215) hG el_196 (Nat.le_of_ble_eq_true rfl) (y := 30) rfl ff_30)
theorem ff_36 : (eG (cn 196 + 36)).2.2 = [217] := by decide +kernel
theorem el_216 : eL[216]? = some (1, 260) := by decide +kernel
theorem ar_36 {d i : Nat} {lv : List (Nat × pv)} {r : List pv} {g : pH} (hG : g_I eG g) : px_push eL d none (.getfield i) 12 36 lv (pvR 196 :: r) g = some (pvR 216 :: r) := pget el_196 (gI_r (r := 216) hG el_196 (Nat.le_of_ble_eq_true rfl) (y := 36) rfl ff_36)
theorem ff_37 : (eG (cn 196 + 37)).2.2 = [218] := by decide +kernel
theorem el_217 : eL[217]? = some (1, 260) := by decide +kernel
theorem ar_37 {d i : Nat} {lv : List (Nat × pv)} {r : List pv} {g : pH} (hG : g_I eG g) : px_push eL d none (.getfield i) 12 37 lv (pvR 196 :: r) g = some (pvR 217 :: r) := pget el_196 (gI_r (r := 217) hG el_196 (Nat.le_of_ble_eq_true rfl) (y := 37) rfl ff_37)
theorem ff_38 : (eG (cn 196 + 38)).2.2 = [219] := by decide +kernel
theorem el_218 : eL[218]? = some (1, 16) := by decide +kernel
theorem ar_38 {d i : Nat} {lv : List (Nat × pv)} {r : List pv} {g : pH} (hG : g_I eG g) : px_push eL d none (.getfield i) 12 38 lv (pvR 196 :: r) g = some (pvR 218 :: r) := pget el_196 (gI_r (r := 218) hG el_196 (Nat.le_of_ble_eq_true rfl) (y := 38) rfl ff_38)
theorem ff_39 : (eG (cn 196 + 39)).2.2 = [220] := by decide +kernel
theorem el_219 : eL[219]? = some (1, 16) := by decide +kernel
theorem ar_39 {d i : Nat} {lv : List (Nat × pv)} {r : List pv} {g : pH} (hG : g_I eG g) : px_push eL d none (.getfield i) 12 39 lv (pvR 196 :: r) g = some (pvR 219 :: r) := pget el_196 (gI_r (r := 219) hG el_196 (Nat.le_of_ble_eq_true rfl) (y := 39) rfl ff_39)
theorem ff_40 : (eG (cn 196 + 40)).2.2 = [221] := by decide +kernel
theorem el_220 : eL[220]? = some (1, 16) := by decide +kernel
theorem ar_40 {d i : Nat} {lv : List (Nat × pv)} {r : List pv} {g : pH} (hG : g_I eG g) : px_push eL d none (.getfield i) 12 40 lv (pvR 196 :: r) g = some (pvR 220 :: r) := pget el_196 (gI_r (r := 220) hG el_196 (Nat.le_of_ble_eq_true rfl) (y := 40) rfl ff_40)
theorem ff_41 : (eG (cn 196 + 41)).2.2 = [222] := by decide +kernel
theorem el_221 : eL[221]? = some (1, 16) := by decide +kernel
theorem ar_41 {d i : Nat} {lv : List (Nat × pv)} {r : List pv} {g : pH} (hG : g_I eG g) : px_push eL d none (.getfield i) 12 41 lv (pvR 196 :: r) g = some (pvR 221 :: r) := pget el_196 (gI_r (r := 221) hG el_196 (Nat.le_of_ble_eq_true rfl) (y := 41) rfl ff_41)
theorem ff_42 : (eG (cn 196 + 42)).2.2 = [223] := by decide +kernel
theorem el_222 : eL[222]? = some (1, 260) := by decide +kernel
theorem ar_42 {d i : Nat} {lv : List (Nat × pv)} {r : List pv} {g : pH} (hG : g_I eG g) : px_push eL d none (.getfield i) 12 42 lv (pvR 196 :: r) g = some (pvR 222 :: r) := pget el_196 (gI_r (r := 222) hG el_196 (Nat.le_of_ble_eq_true rfl) (y := 42) rfl ff_42)
theorem ff_43 : (eG (cn 196 + 43)).2.2 = [224] := by decide +kernel
theorem el_223 : eL[223]? = some (1, 16) := by decide +kernel
theorem ar_43 {d i : Nat} {lv : List (Nat × pv)} {r : List pv} {g : pH} (hG : g_I eG g) : px_push eL d none (.getfield i) 12 43 lv (pvR 196 :: r) g = some (pvR 223 :: r) := pget el_196 (gI_r (r := 223) hG el_196 (Nat.le_of_ble_eq_true rfl) (y := 43) rfl ff_43)
theorem ff_44 : (eG (cn 196 + 44)).2.2 = [225] := by decide +kernel
theorem el_224 : eL[224]? = some (1, 16) := by decide +kernel
theorem ar_44 {d i : Nat} {lv : List (Nat × pv)} {r : List pv} {g : pH} (hG : g_I eG g) : px_push eL d none (.getfield i) 12 44 lv (pvR 196 :: r) g = some (pvR 224 :: r) := pget el_196 (gI_r (r := 224) hG el_196 (Nat.le_of_ble_eq_true rfl) (y := 44) rfl ff_44)
theorem ff_45 : (eG (cn 196 + 45)).2.2 = [226] := by decide +kernel
theorem el_225 : eL[225]? = some (1, 16) := by decide +kernel
theorem ar_45 {d i : Nat} {lv : List (Nat × pv)} {r : List pv} {g : pH} (hG : g_I eG g) : px_push eL d none (.getfield i) 12 45 lv (pvR 196 :: r) g = some (pvR 225 :: r) := pget el_196 (gI_r (r := 225) hG el_196 (Nat.le_of_ble_eq_true rfl) (y := 45) rfl ff_45)
theorem ff_46 : (eG (cn 196 + 46)).2.2 = [227] := by decide +kernel
theorem el_226 : eL[226]? = some (1, 16) := by decide +kernel
theorem ar_46 {d i : Nat} {lv : List (Nat × pv)} {r : List pv} {g : pH} (hG : g_I eG g) : px_push eL d none (.getfield i) 12 46 lv (pvR 196 :: r) g = some (pvR 226 :: r) := pget el_196 (gI_r (r := 226) hG el_196 (Nat.le_of_ble_eq_true rfl) (y := 46) rfl ff_46)
theorem ff_47 : (eG (cn 196 + 47)).2.2 = [228] := by decide +kernel
theorem el_227 : eL[227]? = some (1, 260) := by decide +kernel
theorem ar_47 {d i : Nat} {lv : List (Nat × pv)} {r : List pv} {g : pH} (hG : g_I eG g) : px_push eL d none (.getfield i) 12 47 lv (pvR 196 :: r) g = some (pvR 227 :: r) := pget el_196 (gI_r (r := 227) hG el_196 (Nat.le_of_ble_eq_true rfl) (y := 47) rfl ff_47)
theorem ff_48 : (eG (cn 196 + 48)).2.2 = [229] := by decide +kernel
theorem ar_48 {d i : Nat} {lv : List (Nat × pv)} {r : List pv} {g : pH} (hG : g_I eG g) : px_push eL d none (.getfield i) 12 48 lv (pvR 196 :: r) g = some (pvR 228 :: r) := pget el_196 (gI_r (r := 228) hG el_196 (Nat.le_of_ble_eq_true rfl) (y := 48) rfl ff_48)
theorem ff_55 : (eG (cn 196 + 55)).2.2 = [230] := by decide +kernel
theorem ar_55 {d i : Nat} {lv : List (Nat × pv)} {r : List pv} {g : pH} (hG : g_I eG g) : px_push eL d none (.getfield i) 12 55 lv (pvR 196 :: r) g = some (pvR 229 :: r) := pget el_196 (gI_r (r := 229) hG el_196 (Nat.le_of_ble_eq_true rfl) (y := 55) rfl ff_55)
theorem ff_68 : (eG (cn 196 + 68)).2.2 = [239] := by decide +kernel
theorem ar_68 {d i : Nat} {lv : List (Nat × pv)} {r : List pv} {g : pH} (hG : g_I eG g) : px_push eL d none (.getfield i) 12 68 lv (pvR 196 :: r) g = some (pvR 238 :: r) := pget el_196 (gI_r (r := 238) hG el_196 (Nat.le_of_ble_eq_true rfl) (y := 68) rfl ff_68)
theorem ff_69 : (eG (cn 196 + 69)).2.2 = [240] := by decide +kernel
theorem el_239 : eL[239]? = some (1, 12) := by decide +kernel
theorem ar_69 {d i : Nat} {lv : List (Nat × pv)} {r : List pv} {g : pH} (hG : g_I eG g) : px_push eL d none (.getfield i) 12 69 lv (pvR 196 :: r) g = some (pvR 239 :: r) := pget el_196 (gI_r (r := 239) hG el_196 (Nat.le_of_ble_eq_true rfl) (y := 69) rfl ff_69)
theorem ff_70 : (eG (cn 196 + 70)).2.2 = [241] := by decide +kernel
theorem el_240 : eL[240]? = some (3, 4096) := by decide +kernel
theorem ar_70 {d i : Nat} {lv : List (Nat × pv)} {r : List pv} {g : pH} (hG : g_I eG g) : px_push eL d none (.getfield i) 12 70 lv (pvR 196 :: r) g = some (pvR 240 :: r) := pget el_196 (gI_r (r := 240) hG el_196 (Nat.le_of_ble_eq_true rfl) (y := 70) rfl ff_70)
theorem gb_f {y : Nat} {lo hi : Int} {g : pH} (hG : g_I eG g) (ht : xk_ty 12 y = .int) (hy : Nat.ble (y + 1) (pnf 12) = true) (hg : eG (cn 196 + y) = (lo, hi, [])) : lo ≤ fF g y ∧ fF g y ≤ hi := by
  have := gI_i hG el_196 (Nat.le_of_ble_eq_true hy) ht
  rw [hg] at this
  exact ⟨this.1, this.2.1⟩
theorem gb_a {K n j : Nat} {lo hi : Int} {g : pH} (hG : g_I eG g) (hk : eL[K]? = some (1, n)) (hj : j < n) (hg : eG (cn K) = (lo, hi, [])) : lo ≤ fA g K j ∧ fA g K j ≤ hi := by
  have := gI_ia hG hk hj
  rw [hg] at this
  exact ⟨this.1, this.2.1⟩
end
section
/-! by hand: reckon, comesTo, byLaw (printed in part by wip/e2/bl.py) -/
theorem qbl_0 : xe_look (xc 173) 0 = some (.iconst 0, 1, 0, 0, 0) := by decide +kernel
theorem qbl_1 : xe_look (xc 173) 1 = some (.istore_n 3, 1, 0, 0, 0) := by decide +kernel
theorem qbl_2 : xe_look (xc 173) 2 = some (.iload_n 3, 1, 0, 0, 0) := by decide +kernel
theorem qbl_3 : xe_look (xc 173) 3 = some (.aload_n 0, 1, 0, 0, 0) := by decide +kernel
theorem qbl_4 : xe_look (xc 173) 4 = some (.getfield 362, 3, 12, 35, 1124) := by decide +kernel
theorem qbl_7 : xe_look (xc 173) 7 = some (.if_icmp .ge 82, 3, 0, 0, 0) := by decide +kernel
theorem qbl_10 : xe_look (xc 173) 10 = some (.aload_n 0, 1, 0, 0, 0) := by decide +kernel
theorem qbl_11 : xe_look (xc 173) 11 = some (.getfield 89, 3, 12, 43, 1125) := by decide +kernel
theorem qbl_14 : xe_look (xc 173) 14 = some (.iload_n 3, 1, 0, 0, 0) := by decide +kernel
theorem qbl_15 : xe_look (xc 173) 15 = some (.iaload, 1, 0, 0, 0) := by decide +kernel
theorem qbl_16 : xe_look (xc 173) 16 = some (.iload_n 1, 1, 0, 0, 0) := by decide +kernel
theorem qbl_17 : xe_look (xc 173) 17 = some (.if_icmp .ne 66, 3, 0, 0, 0) := by decide +kernel
theorem qbl_20 : xe_look (xc 173) 20 = some (.aload_n 0, 1, 0, 0, 0) := by decide +kernel
theorem qbl_21 : xe_look (xc 173) 21 = some (.aload_n 0, 1, 0, 0, 0) := by decide +kernel
theorem qbl_22 : xe_look (xc 173) 22 = some (.getfield 95, 3, 12, 45, 1126) := by decide +kernel
theorem qbl_25 : xe_look (xc 173) 25 = some (.iload_n 3, 1, 0, 0, 0) := by decide +kernel
theorem qbl_26 : xe_look (xc 173) 26 = some (.iaload, 1, 0, 0, 0) := by decide +kernel
theorem qbl_27 : xe_look (xc 173) 27 = some (.aload_n 0, 1, 0, 0, 0) := by decide +kernel
theorem qbl_28 : xe_look (xc 173) 28 = some (.getfield 98, 3, 12, 46, 1127) := by decide +kernel
theorem qbl_31 : xe_look (xc 173) 31 = some (.iload_n 3, 1, 0, 0, 0) := by decide +kernel
theorem qbl_32 : xe_look (xc 173) 32 = some (.iaload, 1, 0, 0, 0) := by decide +kernel
theorem qbl_33 : xe_look (xc 173) 33 = some (.invokevirtual 369, 3, 0, 178, 1128) := by decide +kernel
theorem qbl_36 : xe_look (xc 173) 36 = some (.iconst 1, 1, 0, 0, 0) := by decide +kernel
theorem qbl_37 : xe_look (xc 173) 37 = some (.if_icmp .eq 6, 3, 0, 0, 0) := by decide +kernel
theorem qbl_40 : xe_look (xc 173) 40 = some (.goto 43, 3, 0, 0, 0) := by decide +kernel
theorem qbl_43 : xe_look (xc 173) 43 = some (.aload_n 0, 1, 0, 0, 0) := by decide +kernel
theorem qbl_44 : xe_look (xc 173) 44 = some (.aload_n 0, 1, 0, 0, 0) := by decide +kernel
theorem qbl_45 : xe_look (xc 173) 45 = some (.getfield 92, 3, 12, 44, 1129) := by decide +kernel
theorem qbl_48 : xe_look (xc 173) 48 = some (.iload_n 3, 1, 0, 0, 0) := by decide +kernel
theorem qbl_49 : xe_look (xc 173) 49 = some (.iaload, 1, 0, 0, 0) := by decide +kernel
theorem qbl_50 : xe_look (xc 173) 50 = some (.aload_n 0, 1, 0, 0, 0) := by decide +kernel
theorem qbl_51 : xe_look (xc 173) 51 = some (.getfield 95, 3, 12, 45, 1126) := by decide +kernel
theorem qbl_54 : xe_look (xc 173) 54 = some (.iload_n 3, 1, 0, 0, 0) := by decide +kernel
theorem qbl_55 : xe_look (xc 173) 55 = some (.iaload, 1, 0, 0, 0) := by decide +kernel
theorem qbl_56 : xe_look (xc 173) 56 = some (.invokevirtual 369, 3, 0, 178, 1128) := by decide +kernel
theorem qbl_59 : xe_look (xc 173) 59 = some (.istore 4, 2, 0, 0, 0) := by decide +kernel
theorem qbl_61 : xe_look (xc 173) 61 = some (.iload 4, 2, 0, 0, 0) := by decide +kernel
theorem qbl_63 : xe_look (xc 173) 63 = some (.ifCond .ge 7, 3, 0, 0, 0) := by decide +kernel
theorem qbl_66 : xe_look (xc 173) 66 = some (.iconst 0, 1, 0, 0, 0) := by decide +kernel
theorem qbl_67 : xe_look (xc 173) 67 = some (.goto 15, 3, 0, 0, 0) := by decide +kernel
theorem qbl_70 : xe_look (xc 173) 70 = some (.iload 4, 2, 0, 0, 0) := by decide +kernel
theorem qbl_72 : xe_look (xc 173) 72 = some (.iload_n 2, 1, 0, 0, 0) := by decide +kernel
theorem qbl_73 : xe_look (xc 173) 73 = some (.if_icmp .le 7, 3, 0, 0, 0) := by decide +kernel
theorem qbl_76 : xe_look (xc 173) 76 = some (.iload_n 2, 1, 0, 0, 0) := by decide +kernel
theorem qbl_77 : xe_look (xc 173) 77 = some (.goto 5, 3, 0, 0, 0) := by decide +kernel
theorem qbl_80 : xe_look (xc 173) 80 = some (.iload 4, 2, 0, 0, 0) := by decide +kernel
theorem qbl_82 : xe_look (xc 173) 82 = some (.ireturn, 1, 0, 0, 0) := by decide +kernel
theorem qbl_83 : xe_look (xc 173) 83 = some (.iinc 3 1, 3, 0, 0, 0) := by decide +kernel
theorem qbl_86 : xe_look (xc 173) 86 = some (.goto (-84), 3, 0, 0, 0) := by decide +kernel
theorem qbl_89 : xe_look (xc 173) 89 = some (.iconst 0, 1, 0, 0, 0) := by decide +kernel
theorem qbl_90 : xe_look (xc 173) 90 = some (.ireturn, 1, 0, 0, 0) := by decide +kernel
theorem qct_0 : xe_look (xc 178) 0 = some (.iconst 0, 1, 0, 0, 0) := by decide +kernel
theorem qct_1 : xe_look (xc 178) 1 = some (.istore_n 3, 1, 0, 0, 0) := by decide +kernel
theorem qct_2 : xe_look (xc 178) 2 = some (.sipush 260, 3, 0, 0, 0) := by decide +kernel
theorem qct_5 : xe_look (xc 178) 5 = some (.iload_n 1, 1, 0, 0, 0) := by decide +kernel
theorem qct_6 : xe_look (xc 178) 6 = some (.sipush 260, 3, 0, 0, 0) := by decide +kernel
theorem qct_9 : xe_look (xc 178) 9 = some (.idiv, 1, 0, 0, 0) := by decide +kernel
theorem qct_10 : xe_look (xc 178) 10 = some (.imul, 1, 0, 0, 0) := by decide +kernel
theorem qct_11 : xe_look (xc 178) 11 = some (.istore 4, 2, 0, 0, 0) := by decide +kernel
theorem qct_13 : xe_look (xc 178) 13 = some (.iload_n 1, 1, 0, 0, 0) := by decide +kernel
theorem qct_14 : xe_look (xc 178) 14 = some (.istore 5, 2, 0, 0, 0) := by decide +kernel
theorem qct_16 : xe_look (xc 178) 16 = some (.iload 5, 2, 0, 0, 0) := by decide +kernel
theorem qct_18 : xe_look (xc 178) 18 = some (.iload_n 2, 1, 0, 0, 0) := by decide +kernel
theorem qct_19 : xe_look (xc 178) 19 = some (.if_icmp .ge 216, 3, 0, 0, 0) := by decide +kernel
theorem qct_22 : xe_look (xc 178) 22 = some (.aload_n 0, 1, 0, 0, 0) := by decide +kernel
theorem qct_23 : xe_look (xc 178) 23 = some (.getfield 86, 3, 12, 42, 1150) := by decide +kernel
theorem qct_26 : xe_look (xc 178) 26 = some (.iload 5, 2, 0, 0, 0) := by decide +kernel
theorem qct_28 : xe_look (xc 178) 28 = some (.iaload, 1, 0, 0, 0) := by decide +kernel
theorem qct_29 : xe_look (xc 178) 29 = some (.ldc_w 299, 3, 0, 2148532224, 1151) := by decide +kernel
theorem qct_32 : xe_look (xc 178) 32 = some (.idiv, 1, 0, 0, 0) := by decide +kernel
theorem qct_33 : xe_look (xc 178) 33 = some (.istore 6, 2, 0, 0, 0) := by decide +kernel
theorem qct_35 : xe_look (xc 178) 35 = some (.aload_n 0, 1, 0, 0, 0) := by decide +kernel
theorem qct_36 : xe_look (xc 178) 36 = some (.getfield 86, 3, 12, 42, 1150) := by decide +kernel
theorem qct_39 : xe_look (xc 178) 39 = some (.iload 5, 2, 0, 0, 0) := by decide +kernel
theorem qct_41 : xe_look (xc 178) 41 = some (.iaload, 1, 0, 0, 0) := by decide +kernel
theorem qct_42 : xe_look (xc 178) 42 = some (.ldc_w 299, 3, 0, 2148532224, 1151) := by decide +kernel
theorem qct_45 : xe_look (xc 178) 45 = some (.irem, 1, 0, 0, 0) := by decide +kernel
theorem qct_46 : xe_look (xc 178) 46 = some (.istore 7, 2, 0, 0, 0) := by decide +kernel
theorem qct_48 : xe_look (xc 178) 48 = some (.iload 5, 2, 0, 0, 0) := by decide +kernel
theorem qct_50 : xe_look (xc 178) 50 = some (.iconst 1, 1, 0, 0, 0) := by decide +kernel
theorem qct_51 : xe_look (xc 178) 51 = some (.iadd, 1, 0, 0, 0) := by decide +kernel
theorem qct_52 : xe_look (xc 178) 52 = some (.istore 5, 2, 0, 0, 0) := by decide +kernel
theorem qct_54 : xe_look (xc 178) 54 = some (.iload 6, 2, 0, 0, 0) := by decide +kernel
theorem qct_56 : xe_look (xc 178) 56 = some (.ifCond .eq 9, 3, 0, 0, 0) := by decide +kernel
theorem qct_59 : xe_look (xc 178) 59 = some (.iload 6, 2, 0, 0, 0) := by decide +kernel
theorem qct_61 : xe_look (xc 178) 61 = some (.iconst 1, 1, 0, 0, 0) := by decide +kernel
theorem qct_62 : xe_look (xc 178) 62 = some (.if_icmp .ne 33, 3, 0, 0, 0) := by decide +kernel
theorem qct_65 : xe_look (xc 178) 65 = some (.aload_n 0, 1, 0, 0, 0) := by decide +kernel
theorem qct_66 : xe_look (xc 178) 66 = some (.getfield 101, 3, 12, 47, 1152) := by decide +kernel
theorem qct_69 : xe_look (xc 178) 69 = some (.iload_n 3, 1, 0, 0, 0) := by decide +kernel
theorem qct_70 : xe_look (xc 178) 70 = some (.iload 6, 2, 0, 0, 0) := by decide +kernel
theorem qct_72 : xe_look (xc 178) 72 = some (.ifCond .ne 8, 3, 0, 0, 0) := by decide +kernel
theorem qct_75 : xe_look (xc 178) 75 = some (.iload 7, 2, 0, 0, 0) := by decide +kernel
theorem qct_77 : xe_look (xc 178) 77 = some (.goto 10, 3, 0, 0, 0) := by decide +kernel
theorem qct_80 : xe_look (xc 178) 80 = some (.aload_n 0, 1, 0, 0, 0) := by decide +kernel
theorem qct_81 : xe_look (xc 178) 81 = some (.getfield 104, 3, 12, 48, 1153) := by decide +kernel
theorem qct_84 : xe_look (xc 178) 84 = some (.iload 7, 2, 0, 0, 0) := by decide +kernel
theorem qct_86 : xe_look (xc 178) 86 = some (.iaload, 1, 0, 0, 0) := by decide +kernel
theorem qct_87 : xe_look (xc 178) 87 = some (.iastore, 1, 0, 0, 0) := by decide +kernel
theorem qct_88 : xe_look (xc 178) 88 = some (.iload_n 3, 1, 0, 0, 0) := by decide +kernel
theorem qct_89 : xe_look (xc 178) 89 = some (.iconst 1, 1, 0, 0, 0) := by decide +kernel
theorem qct_90 : xe_look (xc 178) 90 = some (.iadd, 1, 0, 0, 0) := by decide +kernel
theorem qct_91 : xe_look (xc 178) 91 = some (.istore_n 3, 1, 0, 0, 0) := by decide +kernel
theorem qct_92 : xe_look (xc 178) 92 = some (.goto 140, 3, 0, 0, 0) := by decide +kernel
theorem qct_95 : xe_look (xc 178) 95 = some (.iload 6, 2, 0, 0, 0) := by decide +kernel
theorem qct_97 : xe_look (xc 178) 97 = some (.bipush 10, 2, 0, 0, 0) := by decide +kernel
theorem qct_99 : xe_look (xc 178) 99 = some (.if_icmp .ne 24, 3, 0, 0, 0) := by decide +kernel
theorem qct_102 : xe_look (xc 178) 102 = some (.aload_n 0, 1, 0, 0, 0) := by decide +kernel
theorem qct_103 : xe_look (xc 178) 103 = some (.getfield 101, 3, 12, 47, 1152) := by decide +kernel
theorem qct_106 : xe_look (xc 178) 106 = some (.iload_n 3, 1, 0, 0, 0) := by decide +kernel
theorem qct_107 : xe_look (xc 178) 107 = some (.iconst 1, 1, 0, 0, 0) := by decide +kernel
theorem qct_108 : xe_look (xc 178) 108 = some (.isub, 1, 0, 0, 0) := by decide +kernel
theorem qct_109 : xe_look (xc 178) 109 = some (.iconst 1, 1, 0, 0, 0) := by decide +kernel
theorem qct_110 : xe_look (xc 178) 110 = some (.aload_n 0, 1, 0, 0, 0) := by decide +kernel
theorem qct_111 : xe_look (xc 178) 111 = some (.getfield 101, 3, 12, 47, 1152) := by decide +kernel
theorem qct_114 : xe_look (xc 178) 114 = some (.iload_n 3, 1, 0, 0, 0) := by decide +kernel
theorem qct_115 : xe_look (xc 178) 115 = some (.iconst 1, 1, 0, 0, 0) := by decide +kernel
theorem qct_116 : xe_look (xc 178) 116 = some (.isub, 1, 0, 0, 0) := by decide +kernel
theorem qct_117 : xe_look (xc 178) 117 = some (.iaload, 1, 0, 0, 0) := by decide +kernel
theorem qct_118 : xe_look (xc 178) 118 = some (.isub, 1, 0, 0, 0) := by decide +kernel
theorem qct_119 : xe_look (xc 178) 119 = some (.iastore, 1, 0, 0, 0) := by decide +kernel
theorem qct_120 : xe_look (xc 178) 120 = some (.goto 112, 3, 0, 0, 0) := by decide +kernel
theorem qct_123 : xe_look (xc 178) 123 = some (.iload 6, 2, 0, 0, 0) := by decide +kernel
theorem qct_125 : xe_look (xc 178) 125 = some (.bipush 11, 2, 0, 0, 0) := by decide +kernel
theorem qct_127 : xe_look (xc 178) 127 = some (.if_icmp .eq 10, 3, 0, 0, 0) := by decide +kernel
theorem qct_130 : xe_look (xc 178) 130 = some (.iload 6, 2, 0, 0, 0) := by decide +kernel
theorem qct_132 : xe_look (xc 178) 132 = some (.bipush 12, 2, 0, 0, 0) := by decide +kernel
theorem qct_134 : xe_look (xc 178) 134 = some (.if_icmp .ne 43, 3, 0, 0, 0) := by decide +kernel
theorem qct_137 : xe_look (xc 178) 137 = some (.aload_n 0, 1, 0, 0, 0) := by decide +kernel
theorem qct_138 : xe_look (xc 178) 138 = some (.getfield 101, 3, 12, 47, 1152) := by decide +kernel
theorem qct_141 : xe_look (xc 178) 141 = some (.iload_n 3, 1, 0, 0, 0) := by decide +kernel
theorem qct_142 : xe_look (xc 178) 142 = some (.iconst 1, 1, 0, 0, 0) := by decide +kernel
theorem qct_143 : xe_look (xc 178) 143 = some (.isub, 1, 0, 0, 0) := by decide +kernel
theorem qct_144 : xe_look (xc 178) 144 = some (.iaload, 1, 0, 0, 0) := by decide +kernel
theorem qct_145 : xe_look (xc 178) 145 = some (.iload 6, 2, 0, 0, 0) := by decide +kernel
theorem qct_147 : xe_look (xc 178) 147 = some (.bipush 12, 2, 0, 0, 0) := by decide +kernel
theorem qct_149 : xe_look (xc 178) 149 = some (.if_icmp .ne 7, 3, 0, 0, 0) := by decide +kernel
theorem qct_152 : xe_look (xc 178) 152 = some (.iconst 1, 1, 0, 0, 0) := by decide +kernel
theorem qct_153 : xe_look (xc 178) 153 = some (.goto 4, 3, 0, 0, 0) := by decide +kernel
theorem qct_156 : xe_look (xc 178) 156 = some (.iconst 0, 1, 0, 0, 0) := by decide +kernel
theorem qct_157 : xe_look (xc 178) 157 = some (.if_icmp .ne 13, 3, 0, 0, 0) := by decide +kernel
theorem qct_160 : xe_look (xc 178) 160 = some (.iload 4, 2, 0, 0, 0) := by decide +kernel
theorem qct_162 : xe_look (xc 178) 162 = some (.iload 7, 2, 0, 0, 0) := by decide +kernel
theorem qct_164 : xe_look (xc 178) 164 = some (.iadd, 1, 0, 0, 0) := by decide +kernel
theorem qct_165 : xe_look (xc 178) 165 = some (.istore 5, 2, 0, 0, 0) := by decide +kernel
theorem qct_167 : xe_look (xc 178) 167 = some (.goto 65, 3, 0, 0, 0) := by decide +kernel
theorem qct_170 : xe_look (xc 178) 170 = some (.iload_n 3, 1, 0, 0, 0) := by decide +kernel
theorem qct_171 : xe_look (xc 178) 171 = some (.iconst 1, 1, 0, 0, 0) := by decide +kernel
theorem qct_172 : xe_look (xc 178) 172 = some (.isub, 1, 0, 0, 0) := by decide +kernel
theorem qct_173 : xe_look (xc 178) 173 = some (.istore_n 3, 1, 0, 0, 0) := by decide +kernel
theorem qct_174 : xe_look (xc 178) 174 = some (.goto 58, 3, 0, 0, 0) := by decide +kernel
theorem qct_177 : xe_look (xc 178) 177 = some (.iload_n 3, 1, 0, 0, 0) := by decide +kernel
theorem qct_178 : xe_look (xc 178) 178 = some (.iconst 1, 1, 0, 0, 0) := by decide +kernel
theorem qct_179 : xe_look (xc 178) 179 = some (.isub, 1, 0, 0, 0) := by decide +kernel
theorem qct_180 : xe_look (xc 178) 180 = some (.istore_n 3, 1, 0, 0, 0) := by decide +kernel
theorem qct_181 : xe_look (xc 178) 181 = some (.iload 6, 2, 0, 0, 0) := by decide +kernel
theorem qct_183 : xe_look (xc 178) 183 = some (.iconst 5, 1, 0, 0, 0) := by decide +kernel
theorem qct_184 : xe_look (xc 178) 184 = some (.if_icmp .eq 10, 3, 0, 0, 0) := by decide +kernel
theorem qct_187 : xe_look (xc 178) 187 = some (.iload 6, 2, 0, 0, 0) := by decide +kernel
theorem qct_189 : xe_look (xc 178) 189 = some (.bipush 6, 2, 0, 0, 0) := by decide +kernel
theorem qct_191 : xe_look (xc 178) 191 = some (.if_icmp .ne 14, 3, 0, 0, 0) := by decide +kernel
theorem qct_194 : xe_look (xc 178) 194 = some (.aload_n 0, 1, 0, 0, 0) := by decide +kernel
theorem qct_195 : xe_look (xc 178) 195 = some (.getfield 101, 3, 12, 47, 1152) := by decide +kernel
theorem qct_198 : xe_look (xc 178) 198 = some (.iload_n 3, 1, 0, 0, 0) := by decide +kernel
theorem qct_199 : xe_look (xc 178) 199 = some (.iaload, 1, 0, 0, 0) := by decide +kernel
theorem qct_200 : xe_look (xc 178) 200 = some (.ifCond .ne 5, 3, 0, 0, 0) := by decide +kernel
theorem qct_203 : xe_look (xc 178) 203 = some (.iconst 0, 1, 0, 0, 0) := by decide +kernel
theorem qct_204 : xe_look (xc 178) 204 = some (.ireturn, 1, 0, 0, 0) := by decide +kernel
theorem qct_205 : xe_look (xc 178) 205 = some (.aload_n 0, 1, 0, 0, 0) := by decide +kernel
theorem qct_206 : xe_look (xc 178) 206 = some (.getfield 101, 3, 12, 47, 1152) := by decide +kernel
theorem qct_209 : xe_look (xc 178) 209 = some (.iload_n 3, 1, 0, 0, 0) := by decide +kernel
theorem qct_210 : xe_look (xc 178) 210 = some (.iconst 1, 1, 0, 0, 0) := by decide +kernel
theorem qct_211 : xe_look (xc 178) 211 = some (.isub, 1, 0, 0, 0) := by decide +kernel
theorem qct_212 : xe_look (xc 178) 212 = some (.iload 6, 2, 0, 0, 0) := by decide +kernel
theorem qct_214 : xe_look (xc 178) 214 = some (.aload_n 0, 1, 0, 0, 0) := by decide +kernel
theorem qct_215 : xe_look (xc 178) 215 = some (.getfield 101, 3, 12, 47, 1152) := by decide +kernel
theorem qct_218 : xe_look (xc 178) 218 = some (.iload_n 3, 1, 0, 0, 0) := by decide +kernel
theorem qct_219 : xe_look (xc 178) 219 = some (.iconst 1, 1, 0, 0, 0) := by decide +kernel
theorem qct_220 : xe_look (xc 178) 220 = some (.isub, 1, 0, 0, 0) := by decide +kernel
theorem qct_221 : xe_look (xc 178) 221 = some (.iaload, 1, 0, 0, 0) := by decide +kernel
theorem qct_222 : xe_look (xc 178) 222 = some (.aload_n 0, 1, 0, 0, 0) := by decide +kernel
theorem qct_223 : xe_look (xc 178) 223 = some (.getfield 101, 3, 12, 47, 1152) := by decide +kernel
theorem qct_226 : xe_look (xc 178) 226 = some (.iload_n 3, 1, 0, 0, 0) := by decide +kernel
theorem qct_227 : xe_look (xc 178) 227 = some (.iaload, 1, 0, 0, 0) := by decide +kernel
theorem qct_228 : xe_look (xc 178) 228 = some (.invokestatic 365, 3, 0, 242, 1154) := by decide +kernel
theorem qct_231 : xe_look (xc 178) 231 = some (.iastore, 1, 0, 0, 0) := by decide +kernel
theorem qct_232 : xe_look (xc 178) 232 = some (.goto (-216), 3, 0, 0, 0) := by decide +kernel
theorem qct_235 : xe_look (xc 178) 235 = some (.aload_n 0, 1, 0, 0, 0) := by decide +kernel
theorem qct_236 : xe_look (xc 178) 236 = some (.getfield 101, 3, 12, 47, 1152) := by decide +kernel
theorem qct_239 : xe_look (xc 178) 239 = some (.iconst 0, 1, 0, 0, 0) := by decide +kernel
theorem qct_240 : xe_look (xc 178) 240 = some (.iaload, 1, 0, 0, 0) := by decide +kernel
theorem qct_241 : xe_look (xc 178) 241 = some (.ireturn, 1, 0, 0, 0) := by decide +kernel
theorem qrk_0 : xe_look (xc 242) 0 = some (.iload_n 0, 1, 0, 0, 0) := by decide +kernel
theorem qrk_1 : xe_look (xc 242) 1 = some (.tableswitch 85 2 8 #[43, 47, 51, 55, 59, 63, 74], 43, 0, 0, 0) := by decide +kernel
theorem qrk_44 : xe_look (xc 242) 44 = some (.iload_n 1, 1, 0, 0, 0) := by decide +kernel
theorem qrk_45 : xe_look (xc 242) 45 = some (.iload_n 2, 1, 0, 0, 0) := by decide +kernel
theorem qrk_46 : xe_look (xc 242) 46 = some (.iadd, 1, 0, 0, 0) := by decide +kernel
theorem qrk_47 : xe_look (xc 242) 47 = some (.ireturn, 1, 0, 0, 0) := by decide +kernel
theorem qrk_48 : xe_look (xc 242) 48 = some (.iload_n 1, 1, 0, 0, 0) := by decide +kernel
theorem qrk_49 : xe_look (xc 242) 49 = some (.iload_n 2, 1, 0, 0, 0) := by decide +kernel
theorem qrk_50 : xe_look (xc 242) 50 = some (.isub, 1, 0, 0, 0) := by decide +kernel
theorem qrk_51 : xe_look (xc 242) 51 = some (.ireturn, 1, 0, 0, 0) := by decide +kernel
theorem qrk_52 : xe_look (xc 242) 52 = some (.iload_n 1, 1, 0, 0, 0) := by decide +kernel
theorem qrk_53 : xe_look (xc 242) 53 = some (.iload_n 2, 1, 0, 0, 0) := by decide +kernel
theorem qrk_54 : xe_look (xc 242) 54 = some (.imul, 1, 0, 0, 0) := by decide +kernel
theorem qrk_55 : xe_look (xc 242) 55 = some (.ireturn, 1, 0, 0, 0) := by decide +kernel
theorem qrk_56 : xe_look (xc 242) 56 = some (.iload_n 1, 1, 0, 0, 0) := by decide +kernel
theorem qrk_57 : xe_look (xc 242) 57 = some (.iload_n 2, 1, 0, 0, 0) := by decide +kernel
theorem qrk_58 : xe_look (xc 242) 58 = some (.idiv, 1, 0, 0, 0) := by decide +kernel
theorem qrk_59 : xe_look (xc 242) 59 = some (.ireturn, 1, 0, 0, 0) := by decide +kernel
theorem qrk_60 : xe_look (xc 242) 60 = some (.iload_n 1, 1, 0, 0, 0) := by decide +kernel
theorem qrk_61 : xe_look (xc 242) 61 = some (.iload_n 2, 1, 0, 0, 0) := by decide +kernel
theorem qrk_62 : xe_look (xc 242) 62 = some (.irem, 1, 0, 0, 0) := by decide +kernel
theorem qrk_63 : xe_look (xc 242) 63 = some (.ireturn, 1, 0, 0, 0) := by decide +kernel
theorem qrk_64 : xe_look (xc 242) 64 = some (.iload_n 1, 1, 0, 0, 0) := by decide +kernel
theorem qrk_65 : xe_look (xc 242) 65 = some (.iload_n 2, 1, 0, 0, 0) := by decide +kernel
theorem qrk_66 : xe_look (xc 242) 66 = some (.if_icmp .ge 7, 3, 0, 0, 0) := by decide +kernel
theorem qrk_69 : xe_look (xc 242) 69 = some (.iconst 1, 1, 0, 0, 0) := by decide +kernel
theorem qrk_70 : xe_look (xc 242) 70 = some (.goto 4, 3, 0, 0, 0) := by decide +kernel
theorem qrk_73 : xe_look (xc 242) 73 = some (.iconst 0, 1, 0, 0, 0) := by decide +kernel
theorem qrk_74 : xe_look (xc 242) 74 = some (.ireturn, 1, 0, 0, 0) := by decide +kernel
theorem qrk_75 : xe_look (xc 242) 75 = some (.iload_n 1, 1, 0, 0, 0) := by decide +kernel
theorem qrk_76 : xe_look (xc 242) 76 = some (.iload_n 2, 1, 0, 0, 0) := by decide +kernel
theorem qrk_77 : xe_look (xc 242) 77 = some (.if_icmp .le 7, 3, 0, 0, 0) := by decide +kernel
theorem qrk_80 : xe_look (xc 242) 80 = some (.iconst 1, 1, 0, 0, 0) := by decide +kernel
theorem qrk_81 : xe_look (xc 242) 81 = some (.goto 4, 3, 0, 0, 0) := by decide +kernel
theorem qrk_84 : xe_look (xc 242) 84 = some (.iconst 0, 1, 0, 0, 0) := by decide +kernel
theorem qrk_85 : xe_look (xc 242) 85 = some (.ireturn, 1, 0, 0, 0) := by decide +kernel
theorem qrk_86 : xe_look (xc 242) 86 = some (.iload_n 1, 1, 0, 0, 0) := by decide +kernel
theorem qrk_87 : xe_look (xc 242) 87 = some (.iload_n 2, 1, 0, 0, 0) := by decide +kernel
theorem qrk_88 : xe_look (xc 242) 88 = some (.if_icmp .ne 7, 3, 0, 0, 0) := by decide +kernel
theorem qrk_91 : xe_look (xc 242) 91 = some (.iconst 1, 1, 0, 0, 0) := by decide +kernel
theorem qrk_92 : xe_look (xc 242) 92 = some (.goto 4, 3, 0, 0, 0) := by decide +kernel
theorem qrk_95 : xe_look (xc 242) 95 = some (.iconst 0, 1, 0, 0, 0) := by decide +kernel
theorem qrk_96 : xe_look (xc 242) 96 = some (.ireturn, 1, 0, 0, 0) := by decide +kernel
theorem ga_227 : eG (cn 227) = ((-2147483648), 2147483647, []) := by decide +kernel
theorem gf_35 : eG (cn 196 + 35) = (0, 16, []) := by decide +kernel
def cSt (c : Int) (D : Nat → Nat) (k : Nat) (b : Int) : Prop := 0 ≤ c ∧ (((c / 1048576 = 0 ∨ (c / 1048576 = 1 ∧ c % 1048576 ≤ 10)) ∧ D (k + 1) = D k + 1) ∨ (c / 1048576 = 10 ∧ 1 ≤ D k ∧ D (k + 1) = D k) ∨ ((c / 1048576 = 11 ∨ c / 1048576 = 12) ∧ 1 ≤ D k ∧ D (k + 1) + 1 = D k ∧ (k : Int) < c % 1048576 ∧ c % 1048576 ≤ b ∧ D (c % 1048576).toNat = D k) ∨ (2 ≤ c / 1048576 ∧ c / 1048576 ≤ 9 ∧ 2 ≤ D k ∧ D (k + 1) + 1 = D k))
def cOK (c : Nat → Int) (D : Nat → Nat) (a b : Int) : Prop := 0 ≤ a ∧ a ≤ b ∧ b ≤ 250 ∧ D a.toNat = 0 ∧ ∀ k : Nat, a ≤ k → (k : Int) < b → cSt (c k) D k b ∧ (D k : Int) ≤ k - a
theorem reckon_run {d : Nat} {g : pH} {lv : List (Nat × pv)} {op : Int} {x y : Int32} {P : Option pv × pH → Prop} (ho : 2 ≤ op ∧ op ≤ 9) (hy : op = 5 ∨ op = 6 → ¬ y = 0) (l0 : px_lg lv 0 = some (oI op)) (l1 : px_lg lv 1 = some (.inl x)) (l2 : px_lg lv 2 = some (.inl y)) (hP : ∀ z : Int32, P (some (.inl z), g)) : t_X d 242 0 lv [] g P := by
  refine t_0 qrk_0 rfl (ld_i l0) ?_
  have h : op = 2 ∨ op = 3 ∨ op = 4 ∨ op = 5 ∨ op = 6 ∨ op = 7 ∨ op = 8 ∨ op = 9 := by omega
  rcases h with rfl | rfl | rfl | rfl | rfl | rfl | rfl | rfl
  · refine t_1 qrk_1 rfl (t := (44, [])) rfl ?_
    show t_X d 242 44 lv [] g P
    refine t_0 qrk_44 rfl (ld_i l1) ?_
    refine t_0 qrk_45 rfl (ld_i l2) ?_
    refine t_0 qrk_46 rfl rfl ?_
    refine t_5 qrk_47 rfl rfl ?_
    exact hP _
  · refine t_1 qrk_1 rfl (t := (48, [])) rfl ?_
    show t_X d 242 48 lv [] g P
    refine t_0 qrk_48 rfl (ld_i l1) ?_
    refine t_0 qrk_49 rfl (ld_i l2) ?_
    refine t_0 qrk_50 rfl rfl ?_
    refine t_5 qrk_51 rfl rfl ?_
    exact hP _
  · refine t_1 qrk_1 rfl (t := (52, [])) rfl ?_
    show t_X d 242 52 lv [] g P
    refine t_0 qrk_52 rfl (ld_i l1) ?_
    refine t_0 qrk_53 rfl (ld_i l2) ?_
    refine t_0 qrk_54 rfl rfl ?_
    refine t_5 qrk_55 rfl rfl ?_
    exact hP _
  · refine t_1 qrk_1 rfl (t := (56, [])) rfl ?_
    show t_X d 242 56 lv [] g P
    refine t_0 qrk_56 rfl (ld_i l1) ?_
    refine t_0 qrk_57 rfl (ld_i l2) ?_
    refine t_0 qrk_58 rfl (pidiv (hy (by omega))) ?_
    refine t_5 qrk_59 rfl rfl ?_
    exact hP _
  · refine t_1 qrk_1 rfl (t := (60, [])) rfl ?_
    show t_X d 242 60 lv [] g P
    refine t_0 qrk_60 rfl (ld_i l1) ?_
    refine t_0 qrk_61 rfl (ld_i l2) ?_
    refine t_0 qrk_62 rfl (pirem (hy (by omega))) ?_
    refine t_5 qrk_63 rfl rfl ?_
    exact hP _
  · refine t_1 qrk_1 rfl (t := (64, [])) rfl ?_
    show t_X d 242 64 lv [] g P
    refine t_0 qrk_64 rfl (ld_i l1) ?_
    refine t_0 qrk_65 rfl (ld_i l2) ?_
    by_cases k : x < y
    · refine t_1 qrk_66 rfl (pc_ge_f (pc := 66) (by decide) k) ?_
      show t_X d 242 69 lv [] g P
      refine t_0 qrk_69 rfl rfl ?_
      refine t_1 qrk_70 rfl (pb_goto (pc := 70) (by decide)) ?_
      refine t_5 qrk_74 rfl rfl ?_
      exact hP _
    · refine t_1 qrk_66 rfl (pc_ge_t (pc := 66) (by decide) k) ?_
      show t_X d 242 73 lv [] g P
      refine t_0 qrk_73 rfl rfl ?_
      refine t_5 qrk_74 rfl rfl ?_
      exact hP _
  · refine t_1 qrk_1 rfl (t := (75, [])) rfl ?_
    show t_X d 242 75 lv [] g P
    refine t_0 qrk_75 rfl (ld_i l1) ?_
    refine t_0 qrk_76 rfl (ld_i l2) ?_
    by_cases k : y < x
    · refine t_1 qrk_77 rfl (pc_le_f (pc := 77) (by decide) k) ?_
      show t_X d 242 80 lv [] g P
      refine t_0 qrk_80 rfl rfl ?_
      refine t_1 qrk_81 rfl (pb_goto (pc := 81) (by decide)) ?_
      refine t_5 qrk_85 rfl rfl ?_
      exact hP _
    · refine t_1 qrk_77 rfl (pc_le_t (pc := 77) (by decide) k) ?_
      show t_X d 242 84 lv [] g P
      refine t_0 qrk_84 rfl rfl ?_
      refine t_5 qrk_85 rfl rfl ?_
      exact hP _
  · refine t_1 qrk_1 rfl (t := (86, [])) rfl ?_
    show t_X d 242 86 lv [] g P
    refine t_0 qrk_86 rfl (ld_i l1) ?_
    refine t_0 qrk_87 rfl (ld_i l2) ?_
    by_cases k : x = y
    · refine t_1 qrk_88 rfl (pc_ne_f (pc := 88) (by decide) k) ?_
      show t_X d 242 91 lv [] g P
      refine t_0 qrk_91 rfl rfl ?_
      refine t_1 qrk_92 rfl (pb_goto (pc := 92) (by decide)) ?_
      refine t_5 qrk_96 rfl rfl ?_
      exact hP _
    · refine t_1 qrk_88 rfl (pc_ne_t (pc := 88) (by decide) k) ?_
      show t_X d 242 95 lv [] g P
      refine t_0 qrk_95 rfl rfl ?_
      refine t_5 qrk_96 rfl rfl ?_
      exact hP _
set_option maxHeartbeats 8000000 in
theorem ct_loop {d W : Nat} (hd : 1 ≤ d) (w_a227 : W.testBit (cn 227) = true) {h0 : pH} {c : Nat → Int} {a b : Int} {D : Nat → Nat} (hC : cOK c D a b) {P : Option pv × pH → Prop} (hP : ∀ (g : pH) (z : Int), -2147483648 ≤ z ∧ z ≤ 2147483647 → J_ W h0 g → P (some (oI z), g)) : ∀ (m k : Nat) (e n : Int) (g : pH) (lv : List (Nat × pv)), b - k ≤ m → a ≤ k → (k : Int) ≤ b → e = k → n = D k → J_ W h0 g → fA g 222 = c → px_lg lv 0 = some (pvR 196) → px_lg lv 2 = some (oI b) → px_lg lv 3 = some (oI n) → px_lg lv 4 = some (oI 0) → px_lg lv 5 = some (oI e) → t_X d 178 16 lv [] g P := by
  obtain ⟨hC1, hC2, hC3, hC4, hC5⟩ := hC
  intro m
  induction m with
  | zero =>
    intro k e n g lv hm hk1 hk2 he hn hJ hc l0 l2 l3 l4 l5
    subst he hn
    have hkb : (k : Int) = b := by omega
    refine t_0 qct_16 rfl (ld_i l5) ?_
    refine t_0 qct_18 rfl (ld_i l2) ?_
    refine tb_ge qct_19 (by decide) ⟨by omega, by omega⟩ ⟨by omega, by omega⟩ (fun c1 => ?_) (fun c1 => absurd c1 (by omega))
    show t_X d 178 235 lv [] g P
    refine t_0 qct_235 rfl (ld_a l0) ?_
    refine t_0 qct_236 rfl (ar_47 hJ.1) ?_
    refine t_0 qct_239 rfl rfl ?_
    refine t_0 qct_240 rfl (pq_ia (e := 0) el_227 rfl ⟨by omega, by omega⟩) ?_
    refine t_5 qct_241 rfl rfl ?_
    exact hP _ _ (fA_b _ _ _) hJ
  | succ m ih =>
    intro k e n g lv hm hk1 hk2 he hn hJ hc l0 l2 l3 l4 l5
    subst he hn
    have hS : (k : Int) < b → cSt (c k) D k b ∧ (D k : Int) ≤ k - a := hC5 k hk1
    have hk : fA g 222 k = c k := congrFun hc k
    by_cases hkb : (k : Int) < b
    · have hS2 := (hS hkb).2
      have hS1 : 0 ≤ c k ∧ (((c k / 1048576 = 0 ∨ (c k / 1048576 = 1 ∧ c k % 1048576 ≤ 10)) ∧ D (k + 1) = D k + 1) ∨ (c k / 1048576 = 10 ∧ 1 ≤ D k ∧ D (k + 1) = D k) ∨ ((c k / 1048576 = 11 ∨ c k / 1048576 = 12) ∧ 1 ≤ D k ∧ D (k + 1) + 1 = D k ∧ (k : Int) < c k % 1048576 ∧ c k % 1048576 ≤ b ∧ D (c k % 1048576).toNat = D k) ∨ (2 ≤ c k / 1048576 ∧ c k / 1048576 ≤ 9 ∧ 2 ≤ D k ∧ D (k + 1) + 1 = D k)) := (hS hkb).1
      rw [← hk] at hS1
      clear hS
      refine t_0 qct_16 rfl (ld_i l5) ?_
      refine t_0 qct_18 rfl (ld_i l2) ?_
      refine tb_ge qct_19 (by decide) ⟨by omega, by omega⟩ ⟨by omega, by omega⟩ (fun c1 => absurd c1 (by omega)) (fun c1 => ?_)
      show t_X d 178 22 lv [] g P
      refine t_0 qct_22 rfl (ld_a l0) ?_
      refine t_0 qct_23 rfl (ar_42 hJ.1) ?_
      refine t_0 qct_26 rfl (ld_i l5) ?_
      refine t_0 qct_28 rfl (pq_ia el_222 rfl ⟨by omega, by omega⟩) ?_
      show t_X d 178 29 lv [oI (fA g 222 k)] g P
      have r2 := fA_b g 222 k
      refine t_0 qct_29 rfl (pq_cw (n := 1048576) (by decide +kernel)) ?_
      refine t_0 qct_32 rfl (pq_div ⟨by omega, by omega⟩ ⟨by omega, by omega⟩) ?_
      refine t_2 qct_33 rfl (w := (px_s1 lv 6 (oI ((fA g 222 k) / 1048576)), [])) rfl ?_
      replace l0 : px_lg (px_s1 lv 6 (oI ((fA g 222 k) / 1048576))) 0 = some (pvR 196) := s1_ne (by decide) (fun _ => rfl) l0
      replace l2 : px_lg (px_s1 lv 6 (oI ((fA g 222 k) / 1048576))) 2 = some (oI (b)) := s1_ne (by decide) (fun _ => rfl) l2
      replace l3 : px_lg (px_s1 lv 6 (oI ((fA g 222 k) / 1048576))) 3 = some (oI ((D k : Int))) := s1_ne (by decide) (fun _ => rfl) l3
      replace l4 : px_lg (px_s1 lv 6 (oI ((fA g 222 k) / 1048576))) 4 = some (oI (0)) := s1_ne (by decide) (fun _ => rfl) l4
      replace l5 : px_lg (px_s1 lv 6 (oI ((fA g 222 k) / 1048576))) 5 = some (oI ((k : Int))) := s1_ne (by decide) (fun _ => rfl) l5
      have l6 : px_lg (px_s1 lv 6 (oI ((fA g 222 k) / 1048576))) 6 = some (oI ((fA g 222 k) / 1048576)) := s1_eq
      generalize px_s1 lv 6 (oI ((fA g 222 k) / 1048576)) = lv3 at l0 l2 l3 l4 l5 l6 ⊢
      show t_X d 178 35 lv3 [] g P
      refine t_0 qct_35 rfl (ld_a l0) ?_
      refine t_0 qct_36 rfl (ar_42 hJ.1) ?_
      refine t_0 qct_39 rfl (ld_i l5) ?_
      refine t_0 qct_41 rfl (pq_ia el_222 rfl ⟨by omega, by omega⟩) ?_
      show t_X d 178 42 lv3 [oI (fA g 222 k)] g P
      have r4 := fA_b g 222 k
      refine t_0 qct_42 rfl (pq_cw (n := 1048576) (by decide +kernel)) ?_
      refine t_0 qct_45 rfl (pq_rem ⟨by omega, by omega⟩ ⟨by omega, by omega⟩) ?_
      refine t_2 qct_46 rfl (w := (px_s1 lv3 7 (oI ((fA g 222 k) % 1048576)), [])) rfl ?_
      replace l0 : px_lg (px_s1 lv3 7 (oI ((fA g 222 k) % 1048576))) 0 = some (pvR 196) := s1_ne (by decide) (fun _ => rfl) l0
      replace l2 : px_lg (px_s1 lv3 7 (oI ((fA g 222 k) % 1048576))) 2 = some (oI (b)) := s1_ne (by decide) (fun _ => rfl) l2
      replace l3 : px_lg (px_s1 lv3 7 (oI ((fA g 222 k) % 1048576))) 3 = some (oI ((D k : Int))) := s1_ne (by decide) (fun _ => rfl) l3
      replace l4 : px_lg (px_s1 lv3 7 (oI ((fA g 222 k) % 1048576))) 4 = some (oI (0)) := s1_ne (by decide) (fun _ => rfl) l4
      replace l5 : px_lg (px_s1 lv3 7 (oI ((fA g 222 k) % 1048576))) 5 = some (oI ((k : Int))) := s1_ne (by decide) (fun _ => rfl) l5
      replace l6 : px_lg (px_s1 lv3 7 (oI ((fA g 222 k) % 1048576))) 6 = some (oI ((fA g 222 k) / 1048576)) := s1_ne (by decide) (fun _ => rfl) l6
      have l7 : px_lg (px_s1 lv3 7 (oI ((fA g 222 k) % 1048576))) 7 = some (oI ((fA g 222 k) % 1048576)) := s1_eq
      generalize px_s1 lv3 7 (oI ((fA g 222 k) % 1048576)) = lv5 at l0 l2 l3 l4 l5 l6 l7 ⊢
      show t_X d 178 48 lv5 [] g P
      refine t_0 qct_48 rfl (ld_i l5) ?_
      refine t_0 qct_50 rfl rfl ?_
      refine t_0 qct_51 rfl pq_add ?_
      refine t_2 qct_52 rfl (w := (px_s1 lv5 5 (oI ((k : Int) + 1)), [])) rfl ?_
      replace l0 : px_lg (px_s1 lv5 5 (oI ((k : Int) + 1))) 0 = some (pvR 196) := s1_ne (by decide) (fun _ => rfl) l0
      replace l2 : px_lg (px_s1 lv5 5 (oI ((k : Int) + 1))) 2 = some (oI (b)) := s1_ne (by decide) (fun _ => rfl) l2
      replace l3 : px_lg (px_s1 lv5 5 (oI ((k : Int) + 1))) 3 = some (oI ((D k : Int))) := s1_ne (by decide) (fun _ => rfl) l3
      replace l4 : px_lg (px_s1 lv5 5 (oI ((k : Int) + 1))) 4 = some (oI (0)) := s1_ne (by decide) (fun _ => rfl) l4
      replace l6 : px_lg (px_s1 lv5 5 (oI ((k : Int) + 1))) 6 = some (oI ((fA g 222 k) / 1048576)) := s1_ne (by decide) (fun _ => rfl) l6
      replace l7 : px_lg (px_s1 lv5 5 (oI ((k : Int) + 1))) 7 = some (oI ((fA g 222 k) % 1048576)) := s1_ne (by decide) (fun _ => rfl) l7
      have l5 : px_lg (px_s1 lv5 5 (oI ((k : Int) + 1))) 5 = some (oI ((k : Int) + 1)) := s1_eq
      generalize px_s1 lv5 5 (oI ((k : Int) + 1)) = lv6 at l0 l2 l3 l4 l6 l7 l5 ⊢
      show t_X d 178 54 lv6 [] g P
      refine t_0 qct_54 rfl (ld_i l6) ?_
      refine tz_eq qct_56 (by decide) ⟨by omega, by omega⟩ (fun c7 => ?_) (fun c7 => ?_)
      · show t_X d 178 65 lv6 [] g P
        refine t_0 qct_65 rfl (ld_a l0) ?_
        refine t_0 qct_66 rfl (ar_47 hJ.1) ?_
        refine t_0 qct_69 rfl (ld_i l3) ?_
        refine t_0 qct_70 rfl (ld_i l6) ?_
        refine tz_ne qct_72 (by decide) ⟨by omega, by omega⟩ (fun c8 => ?_) (fun c8 => ?_)
        · show t_X d 178 80 lv6 [oI ((D k : Int)), pvR 227] g P
          refine t_0 qct_80 rfl (ld_a l0) ?_
          refine t_0 qct_81 rfl (ar_48 hJ.1) ?_
          refine t_0 qct_84 rfl (ld_i l7) ?_
          refine t_0 qct_86 rfl (pq_ia el_228 rfl ⟨by omega, by omega⟩) ?_
          have r9 := fA_b g 228 ((fA g 222 k) % 1048576).toNat
          refine tw_a qct_87 hJ el_227 rfl w_a227 ga_227 (by decide) ⟨by omega, by omega⟩ ⟨by omega, by omega⟩ (fun g10 hJ10 a10 v10 b10 f10 => ?_)
          replace f10 := fF_1 f10
          show t_X d 178 88 lv6 [] g10 P
          refine t_0 qct_88 rfl (ld_i l3) ?_
          refine t_0 qct_89 rfl rfl ?_
          refine t_0 qct_90 rfl pq_add ?_
          refine t_2 qct_91 rfl (w := (px_s1 lv6 3 (oI ((D k : Int) + 1)), [])) rfl ?_
          replace l0 : px_lg (px_s1 lv6 3 (oI ((D k : Int) + 1))) 0 = some (pvR 196) := s1_ne (by decide) (fun _ => rfl) l0
          replace l2 : px_lg (px_s1 lv6 3 (oI ((D k : Int) + 1))) 2 = some (oI (b)) := s1_ne (by decide) (fun _ => rfl) l2
          replace l4 : px_lg (px_s1 lv6 3 (oI ((D k : Int) + 1))) 4 = some (oI (0)) := s1_ne (by decide) (fun _ => rfl) l4
          replace l6 : px_lg (px_s1 lv6 3 (oI ((D k : Int) + 1))) 6 = some (oI ((fA g 222 k) / 1048576)) := s1_ne (by decide) (fun _ => rfl) l6
          replace l7 : px_lg (px_s1 lv6 3 (oI ((D k : Int) + 1))) 7 = some (oI ((fA g 222 k) % 1048576)) := s1_ne (by decide) (fun _ => rfl) l7
          replace l5 : px_lg (px_s1 lv6 3 (oI ((D k : Int) + 1))) 5 = some (oI ((k : Int) + 1)) := s1_ne (by decide) (fun _ => rfl) l5
          have l3 : px_lg (px_s1 lv6 3 (oI ((D k : Int) + 1))) 3 = some (oI ((D k : Int) + 1)) := s1_eq
          generalize px_s1 lv6 3 (oI ((D k : Int) + 1)) = lv11 at l0 l2 l4 l6 l7 l5 l3 ⊢
          show t_X d 178 92 lv11 [] g10 P
          refine t_1 qct_92 rfl (pb_goto (pc := 92) (by decide)) ?_
          show t_X d 178 232 lv11 [] g10 P
          refine t_1 qct_232 rfl (pb_goto (pc := 232) (by decide)) ?_
          show t_X d 178 16 lv11 [] g10 P
          exact ih (k + 1) _ _ _ _ (by omega) (by omega) (by omega) (by omega) (by omega) hJ10 ((a10 222 (by decide)).trans hc) l0 l2 l3 l4 l5
        · show t_X d 178 75 lv6 [oI ((D k : Int)), pvR 227] g P
          refine t_0 qct_75 rfl (ld_i l7) ?_
          refine t_1 qct_77 rfl (pb_goto (pc := 77) (by decide)) ?_
          show t_X d 178 87 lv6 [oI ((fA g 222 k) % 1048576), oI ((D k : Int)), pvR 227] g P
          refine tw_a qct_87 hJ el_227 rfl w_a227 ga_227 (by decide) ⟨by omega, by omega⟩ ⟨by omega, by omega⟩ (fun g12 hJ12 a12 v12 b12 f12 => ?_)
          replace f12 := fF_1 f12
          show t_X d 178 88 lv6 [] g12 P
          refine t_0 qct_88 rfl (ld_i l3) ?_
          refine t_0 qct_89 rfl rfl ?_
          refine t_0 qct_90 rfl pq_add ?_
          refine t_2 qct_91 rfl (w := (px_s1 lv6 3 (oI ((D k : Int) + 1)), [])) rfl ?_
          replace l0 : px_lg (px_s1 lv6 3 (oI ((D k : Int) + 1))) 0 = some (pvR 196) := s1_ne (by decide) (fun _ => rfl) l0
          replace l2 : px_lg (px_s1 lv6 3 (oI ((D k : Int) + 1))) 2 = some (oI (b)) := s1_ne (by decide) (fun _ => rfl) l2
          replace l4 : px_lg (px_s1 lv6 3 (oI ((D k : Int) + 1))) 4 = some (oI (0)) := s1_ne (by decide) (fun _ => rfl) l4
          replace l6 : px_lg (px_s1 lv6 3 (oI ((D k : Int) + 1))) 6 = some (oI ((fA g 222 k) / 1048576)) := s1_ne (by decide) (fun _ => rfl) l6
          replace l7 : px_lg (px_s1 lv6 3 (oI ((D k : Int) + 1))) 7 = some (oI ((fA g 222 k) % 1048576)) := s1_ne (by decide) (fun _ => rfl) l7
          replace l5 : px_lg (px_s1 lv6 3 (oI ((D k : Int) + 1))) 5 = some (oI ((k : Int) + 1)) := s1_ne (by decide) (fun _ => rfl) l5
          have l3 : px_lg (px_s1 lv6 3 (oI ((D k : Int) + 1))) 3 = some (oI ((D k : Int) + 1)) := s1_eq
          generalize px_s1 lv6 3 (oI ((D k : Int) + 1)) = lv13 at l0 l2 l4 l6 l7 l5 l3 ⊢
          show t_X d 178 92 lv13 [] g12 P
          refine t_1 qct_92 rfl (pb_goto (pc := 92) (by decide)) ?_
          show t_X d 178 232 lv13 [] g12 P
          refine t_1 qct_232 rfl (pb_goto (pc := 232) (by decide)) ?_
          show t_X d 178 16 lv13 [] g12 P
          exact ih (k + 1) _ _ _ _ (by omega) (by omega) (by omega) (by omega) (by omega) hJ12 ((a12 222 (by decide)).trans hc) l0 l2 l3 l4 l5
      · show t_X d 178 59 lv6 [] g P
        refine t_0 qct_59 rfl (ld_i l6) ?_
        refine t_0 qct_61 rfl rfl ?_
        refine tb_ne qct_62 (by decide) ⟨by omega, by omega⟩ ⟨by omega, by omega⟩ (fun c14 => ?_) (fun c14 => ?_)
        · show t_X d 178 95 lv6 [] g P
          refine t_0 qct_95 rfl (ld_i l6) ?_
          refine t_0 qct_97 rfl (pq_b (by decide)) ?_
          refine tb_ne qct_99 (by decide) ⟨by omega, by omega⟩ ⟨by omega, by omega⟩ (fun c15 => ?_) (fun c15 => ?_)
          · show t_X d 178 123 lv6 [] g P
            refine t_0 qct_123 rfl (ld_i l6) ?_
            refine t_0 qct_125 rfl (pq_b (by decide)) ?_
            refine tb_eq qct_127 (by decide) ⟨by omega, by omega⟩ ⟨by omega, by omega⟩ (fun c16 => ?_) (fun c16 => ?_)
            · show t_X d 178 137 lv6 [] g P
              refine t_0 qct_137 rfl (ld_a l0) ?_
              refine t_0 qct_138 rfl (ar_47 hJ.1) ?_
              refine t_0 qct_141 rfl (ld_i l3) ?_
              refine t_0 qct_142 rfl rfl ?_
              refine t_0 qct_143 rfl pq_sub ?_
              refine t_0 qct_144 rfl (pq_ia el_227 rfl ⟨by omega, by omega⟩) ?_
              have r17 := fA_b g 227 ((D k : Int) - 1).toNat
              refine t_0 qct_145 rfl (ld_i l6) ?_
              refine t_0 qct_147 rfl (pq_b (by decide)) ?_
              refine tb_ne qct_149 (by decide) ⟨by omega, by omega⟩ ⟨by omega, by omega⟩ (fun c18 => ?_) (fun c18 => ?_)
              · show t_X d 178 156 lv6 [oI (fA g 227 ((D k : Int) - 1).toNat)] g P
                refine t_0 qct_156 rfl rfl ?_
                refine tb_ne qct_157 (by decide) ⟨by omega, by omega⟩ ⟨by omega, by omega⟩ (fun c19 => ?_) (fun c19 => ?_)
                · show t_X d 178 170 lv6 [] g P
                  refine t_0 qct_170 rfl (ld_i l3) ?_
                  refine t_0 qct_171 rfl rfl ?_
                  refine t_0 qct_172 rfl pq_sub ?_
                  refine t_2 qct_173 rfl (w := (px_s1 lv6 3 (oI ((D k : Int) - 1)), [])) rfl ?_
                  replace l0 : px_lg (px_s1 lv6 3 (oI ((D k : Int) - 1))) 0 = some (pvR 196) := s1_ne (by decide) (fun _ => rfl) l0
                  replace l2 : px_lg (px_s1 lv6 3 (oI ((D k : Int) - 1))) 2 = some (oI (b)) := s1_ne (by decide) (fun _ => rfl) l2
                  replace l4 : px_lg (px_s1 lv6 3 (oI ((D k : Int) - 1))) 4 = some (oI (0)) := s1_ne (by decide) (fun _ => rfl) l4
                  replace l6 : px_lg (px_s1 lv6 3 (oI ((D k : Int) - 1))) 6 = some (oI ((fA g 222 k) / 1048576)) := s1_ne (by decide) (fun _ => rfl) l6
                  replace l7 : px_lg (px_s1 lv6 3 (oI ((D k : Int) - 1))) 7 = some (oI ((fA g 222 k) % 1048576)) := s1_ne (by decide) (fun _ => rfl) l7
                  replace l5 : px_lg (px_s1 lv6 3 (oI ((D k : Int) - 1))) 5 = some (oI ((k : Int) + 1)) := s1_ne (by decide) (fun _ => rfl) l5
                  have l3 : px_lg (px_s1 lv6 3 (oI ((D k : Int) - 1))) 3 = some (oI ((D k : Int) - 1)) := s1_eq
                  generalize px_s1 lv6 3 (oI ((D k : Int) - 1)) = lv20 at l0 l2 l4 l6 l7 l5 l3 ⊢
                  show t_X d 178 174 lv20 [] g P
                  refine t_1 qct_174 rfl (pb_goto (pc := 174) (by decide)) ?_
                  show t_X d 178 232 lv20 [] g P
                  refine t_1 qct_232 rfl (pb_goto (pc := 232) (by decide)) ?_
                  show t_X d 178 16 lv20 [] g P
                  exact ih (k + 1) _ _ _ _ (by omega) (by omega) (by omega) (by omega) (by omega) hJ hc l0 l2 l3 l4 l5
                · show t_X d 178 160 lv6 [] g P
                  refine t_0 qct_160 rfl (ld_i l4) ?_
                  refine t_0 qct_162 rfl (ld_i l7) ?_
                  refine t_0 qct_164 rfl pq_add ?_
                  refine t_2 qct_165 rfl (w := (px_s1 lv6 5 (oI (0 + ((fA g 222 k) % 1048576))), [])) rfl ?_
                  replace l0 : px_lg (px_s1 lv6 5 (oI (0 + ((fA g 222 k) % 1048576)))) 0 = some (pvR 196) := s1_ne (by decide) (fun _ => rfl) l0
                  replace l2 : px_lg (px_s1 lv6 5 (oI (0 + ((fA g 222 k) % 1048576)))) 2 = some (oI (b)) := s1_ne (by decide) (fun _ => rfl) l2
                  replace l3 : px_lg (px_s1 lv6 5 (oI (0 + ((fA g 222 k) % 1048576)))) 3 = some (oI ((D k : Int))) := s1_ne (by decide) (fun _ => rfl) l3
                  replace l4 : px_lg (px_s1 lv6 5 (oI (0 + ((fA g 222 k) % 1048576)))) 4 = some (oI (0)) := s1_ne (by decide) (fun _ => rfl) l4
                  replace l6 : px_lg (px_s1 lv6 5 (oI (0 + ((fA g 222 k) % 1048576)))) 6 = some (oI ((fA g 222 k) / 1048576)) := s1_ne (by decide) (fun _ => rfl) l6
                  replace l7 : px_lg (px_s1 lv6 5 (oI (0 + ((fA g 222 k) % 1048576)))) 7 = some (oI ((fA g 222 k) % 1048576)) := s1_ne (by decide) (fun _ => rfl) l7
                  have l5 : px_lg (px_s1 lv6 5 (oI (0 + ((fA g 222 k) % 1048576)))) 5 = some (oI (0 + ((fA g 222 k) % 1048576))) := s1_eq
                  generalize px_s1 lv6 5 (oI (0 + ((fA g 222 k) % 1048576))) = lv21 at l0 l2 l3 l4 l6 l7 l5 ⊢
                  show t_X d 178 167 lv21 [] g P
                  refine t_1 qct_167 rfl (pb_goto (pc := 167) (by decide)) ?_
                  show t_X d 178 232 lv21 [] g P
                  refine t_1 qct_232 rfl (pb_goto (pc := 232) (by decide)) ?_
                  show t_X d 178 16 lv21 [] g P
                  exact ih (fA g 222 k % 1048576).toNat _ _ _ _ (by omega) (by omega) (by omega) (by omega) (by omega) hJ hc l0 l2 l3 l4 l5
              · show t_X d 178 152 lv6 [oI (fA g 227 ((D k : Int) - 1).toNat)] g P
                refine t_0 qct_152 rfl rfl ?_
                refine t_1 qct_153 rfl (pb_goto (pc := 153) (by decide)) ?_
                show t_X d 178 157 lv6 [oI (1), oI (fA g 227 ((D k : Int) - 1).toNat)] g P
                refine tb_ne qct_157 (by decide) ⟨by omega, by omega⟩ ⟨by omega, by omega⟩ (fun c22 => ?_) (fun c22 => ?_)
                · show t_X d 178 170 lv6 [] g P
                  refine t_0 qct_170 rfl (ld_i l3) ?_
                  refine t_0 qct_171 rfl rfl ?_
                  refine t_0 qct_172 rfl pq_sub ?_
                  refine t_2 qct_173 rfl (w := (px_s1 lv6 3 (oI ((D k : Int) - 1)), [])) rfl ?_
                  replace l0 : px_lg (px_s1 lv6 3 (oI ((D k : Int) - 1))) 0 = some (pvR 196) := s1_ne (by decide) (fun _ => rfl) l0
                  replace l2 : px_lg (px_s1 lv6 3 (oI ((D k : Int) - 1))) 2 = some (oI (b)) := s1_ne (by decide) (fun _ => rfl) l2
                  replace l4 : px_lg (px_s1 lv6 3 (oI ((D k : Int) - 1))) 4 = some (oI (0)) := s1_ne (by decide) (fun _ => rfl) l4
                  replace l6 : px_lg (px_s1 lv6 3 (oI ((D k : Int) - 1))) 6 = some (oI ((fA g 222 k) / 1048576)) := s1_ne (by decide) (fun _ => rfl) l6
                  replace l7 : px_lg (px_s1 lv6 3 (oI ((D k : Int) - 1))) 7 = some (oI ((fA g 222 k) % 1048576)) := s1_ne (by decide) (fun _ => rfl) l7
                  replace l5 : px_lg (px_s1 lv6 3 (oI ((D k : Int) - 1))) 5 = some (oI ((k : Int) + 1)) := s1_ne (by decide) (fun _ => rfl) l5
                  have l3 : px_lg (px_s1 lv6 3 (oI ((D k : Int) - 1))) 3 = some (oI ((D k : Int) - 1)) := s1_eq
                  generalize px_s1 lv6 3 (oI ((D k : Int) - 1)) = lv23 at l0 l2 l4 l6 l7 l5 l3 ⊢
                  show t_X d 178 174 lv23 [] g P
                  refine t_1 qct_174 rfl (pb_goto (pc := 174) (by decide)) ?_
                  show t_X d 178 232 lv23 [] g P
                  refine t_1 qct_232 rfl (pb_goto (pc := 232) (by decide)) ?_
                  show t_X d 178 16 lv23 [] g P
                  exact ih (k + 1) _ _ _ _ (by omega) (by omega) (by omega) (by omega) (by omega) hJ hc l0 l2 l3 l4 l5
                · show t_X d 178 160 lv6 [] g P
                  refine t_0 qct_160 rfl (ld_i l4) ?_
                  refine t_0 qct_162 rfl (ld_i l7) ?_
                  refine t_0 qct_164 rfl pq_add ?_
                  refine t_2 qct_165 rfl (w := (px_s1 lv6 5 (oI (0 + ((fA g 222 k) % 1048576))), [])) rfl ?_
                  replace l0 : px_lg (px_s1 lv6 5 (oI (0 + ((fA g 222 k) % 1048576)))) 0 = some (pvR 196) := s1_ne (by decide) (fun _ => rfl) l0
                  replace l2 : px_lg (px_s1 lv6 5 (oI (0 + ((fA g 222 k) % 1048576)))) 2 = some (oI (b)) := s1_ne (by decide) (fun _ => rfl) l2
                  replace l3 : px_lg (px_s1 lv6 5 (oI (0 + ((fA g 222 k) % 1048576)))) 3 = some (oI ((D k : Int))) := s1_ne (by decide) (fun _ => rfl) l3
                  replace l4 : px_lg (px_s1 lv6 5 (oI (0 + ((fA g 222 k) % 1048576)))) 4 = some (oI (0)) := s1_ne (by decide) (fun _ => rfl) l4
                  replace l6 : px_lg (px_s1 lv6 5 (oI (0 + ((fA g 222 k) % 1048576)))) 6 = some (oI ((fA g 222 k) / 1048576)) := s1_ne (by decide) (fun _ => rfl) l6
                  replace l7 : px_lg (px_s1 lv6 5 (oI (0 + ((fA g 222 k) % 1048576)))) 7 = some (oI ((fA g 222 k) % 1048576)) := s1_ne (by decide) (fun _ => rfl) l7
                  have l5 : px_lg (px_s1 lv6 5 (oI (0 + ((fA g 222 k) % 1048576)))) 5 = some (oI (0 + ((fA g 222 k) % 1048576))) := s1_eq
                  generalize px_s1 lv6 5 (oI (0 + ((fA g 222 k) % 1048576))) = lv24 at l0 l2 l3 l4 l6 l7 l5 ⊢
                  show t_X d 178 167 lv24 [] g P
                  refine t_1 qct_167 rfl (pb_goto (pc := 167) (by decide)) ?_
                  show t_X d 178 232 lv24 [] g P
                  refine t_1 qct_232 rfl (pb_goto (pc := 232) (by decide)) ?_
                  show t_X d 178 16 lv24 [] g P
                  exact ih (fA g 222 k % 1048576).toNat _ _ _ _ (by omega) (by omega) (by omega) (by omega) (by omega) hJ hc l0 l2 l3 l4 l5
            · show t_X d 178 130 lv6 [] g P
              refine t_0 qct_130 rfl (ld_i l6) ?_
              refine t_0 qct_132 rfl (pq_b (by decide)) ?_
              refine tb_ne qct_134 (by decide) ⟨by omega, by omega⟩ ⟨by omega, by omega⟩ (fun c25 => ?_) (fun c25 => ?_)
              · show t_X d 178 177 lv6 [] g P
                refine t_0 qct_177 rfl (ld_i l3) ?_
                refine t_0 qct_178 rfl rfl ?_
                refine t_0 qct_179 rfl pq_sub ?_
                refine t_2 qct_180 rfl (w := (px_s1 lv6 3 (oI ((D k : Int) - 1)), [])) rfl ?_
                replace l0 : px_lg (px_s1 lv6 3 (oI ((D k : Int) - 1))) 0 = some (pvR 196) := s1_ne (by decide) (fun _ => rfl) l0
                replace l2 : px_lg (px_s1 lv6 3 (oI ((D k : Int) - 1))) 2 = some (oI (b)) := s1_ne (by decide) (fun _ => rfl) l2
                replace l4 : px_lg (px_s1 lv6 3 (oI ((D k : Int) - 1))) 4 = some (oI (0)) := s1_ne (by decide) (fun _ => rfl) l4
                replace l6 : px_lg (px_s1 lv6 3 (oI ((D k : Int) - 1))) 6 = some (oI ((fA g 222 k) / 1048576)) := s1_ne (by decide) (fun _ => rfl) l6
                replace l7 : px_lg (px_s1 lv6 3 (oI ((D k : Int) - 1))) 7 = some (oI ((fA g 222 k) % 1048576)) := s1_ne (by decide) (fun _ => rfl) l7
                replace l5 : px_lg (px_s1 lv6 3 (oI ((D k : Int) - 1))) 5 = some (oI ((k : Int) + 1)) := s1_ne (by decide) (fun _ => rfl) l5
                have l3 : px_lg (px_s1 lv6 3 (oI ((D k : Int) - 1))) 3 = some (oI ((D k : Int) - 1)) := s1_eq
                generalize px_s1 lv6 3 (oI ((D k : Int) - 1)) = lv26 at l0 l2 l4 l6 l7 l5 l3 ⊢
                show t_X d 178 181 lv26 [] g P
                refine t_0 qct_181 rfl (ld_i l6) ?_
                refine t_0 qct_183 rfl rfl ?_
                refine tb_eq qct_184 (by decide) ⟨by omega, by omega⟩ ⟨by omega, by omega⟩ (fun c27 => ?_) (fun c27 => ?_)
                · show t_X d 178 194 lv26 [] g P
                  refine t_0 qct_194 rfl (ld_a l0) ?_
                  refine t_0 qct_195 rfl (ar_47 hJ.1) ?_
                  refine t_0 qct_198 rfl (ld_i l3) ?_
                  refine t_0 qct_199 rfl (pq_ia el_227 rfl ⟨by omega, by omega⟩) ?_
                  have r28 := fA_b g 227 ((D k : Int) - 1).toNat
                  refine tz_ne qct_200 (by decide) ⟨by omega, by omega⟩ (fun c29 => ?_) (fun c29 => ?_)
                  · show t_X d 178 205 lv26 [] g P
                    refine t_0 qct_205 rfl (ld_a l0) ?_
                    refine t_0 qct_206 rfl (ar_47 hJ.1) ?_
                    refine t_0 qct_209 rfl (ld_i l3) ?_
                    refine t_0 qct_210 rfl rfl ?_
                    refine t_0 qct_211 rfl pq_sub ?_
                    refine t_0 qct_212 rfl (ld_i l6) ?_
                    refine t_0 qct_214 rfl (ld_a l0) ?_
                    refine t_0 qct_215 rfl (ar_47 hJ.1) ?_
                    refine t_0 qct_218 rfl (ld_i l3) ?_
                    refine t_0 qct_219 rfl rfl ?_
                    refine t_0 qct_220 rfl pq_sub ?_
                    refine t_0 qct_221 rfl (pq_ia el_227 rfl ⟨by omega, by omega⟩) ?_
                    have r30 := fA_b g 227 (((D k : Int) - 1) - 1).toNat
                    refine t_0 qct_222 rfl (ld_a l0) ?_
                    refine t_0 qct_223 rfl (ar_47 hJ.1) ?_
                    refine t_0 qct_226 rfl (ld_i l3) ?_
                    refine t_0 qct_227 rfl (pq_ia el_227 rfl ⟨by omega, by omega⟩) ?_
                    have r31 := fA_b g 227 ((D k : Int) - 1).toNat
                    refine t_3 qct_228 rfl (ar := ([oI ((fA g 222 k) / 1048576), oI (fA g 227 (((D k : Int) - 1) - 1).toNat), oI (fA g 227 ((D k : Int) - 1).toNat)], [oI (((D k : Int) - 1) - 1), pvR 227])) (pcal_s ⟨Or.inl rfl, rfl, Nat.le_of_ble_eq_true rfl⟩) ⟨by omega, Nat.le_of_ble_eq_true rfl, Nat.le_of_ble_eq_true rfl, rfl⟩ ?_
                    refine reckon_run ⟨by omega, by omega⟩ (fun z => ne_oI ⟨by omega, by omega⟩ (by omega)) rfl rfl rfl (fun z32 => ?_)
                    show t_X d 178 231 lv26 [.inl (z32), oI (((D k : Int) - 1) - 1), pvR 227] g P
                    refine tw_ax qct_231 hJ el_227 rfl w_a227 ga_227 ⟨by omega, by omega⟩ (fun g33 hJ33 a33 f33 => ?_)
                    replace f33 := fF_1 f33
                    show t_X d 178 232 lv26 [] g33 P
                    refine t_1 qct_232 rfl (pb_goto (pc := 232) (by decide)) ?_
                    show t_X d 178 16 lv26 [] g33 P
                    exact ih (k + 1) _ _ _ _ (by omega) (by omega) (by omega) (by omega) (by omega) hJ33 ((a33 222 (by decide)).trans hc) l0 l2 l3 l4 l5
                  · show t_X d 178 203 lv26 [] g P
                    refine t_0 qct_203 rfl rfl ?_
                    refine t_5 qct_204 rfl rfl ?_
                    exact hP _ _ ⟨by omega, by omega⟩ hJ
                · show t_X d 178 187 lv26 [] g P
                  refine t_0 qct_187 rfl (ld_i l6) ?_
                  refine t_0 qct_189 rfl (pq_b (by decide)) ?_
                  refine tb_ne qct_191 (by decide) ⟨by omega, by omega⟩ ⟨by omega, by omega⟩ (fun c34 => ?_) (fun c34 => ?_)
                  · show t_X d 178 205 lv26 [] g P
                    refine t_0 qct_205 rfl (ld_a l0) ?_
                    refine t_0 qct_206 rfl (ar_47 hJ.1) ?_
                    refine t_0 qct_209 rfl (ld_i l3) ?_
                    refine t_0 qct_210 rfl rfl ?_
                    refine t_0 qct_211 rfl pq_sub ?_
                    refine t_0 qct_212 rfl (ld_i l6) ?_
                    refine t_0 qct_214 rfl (ld_a l0) ?_
                    refine t_0 qct_215 rfl (ar_47 hJ.1) ?_
                    refine t_0 qct_218 rfl (ld_i l3) ?_
                    refine t_0 qct_219 rfl rfl ?_
                    refine t_0 qct_220 rfl pq_sub ?_
                    refine t_0 qct_221 rfl (pq_ia el_227 rfl ⟨by omega, by omega⟩) ?_
                    have r35 := fA_b g 227 (((D k : Int) - 1) - 1).toNat
                    refine t_0 qct_222 rfl (ld_a l0) ?_
                    refine t_0 qct_223 rfl (ar_47 hJ.1) ?_
                    refine t_0 qct_226 rfl (ld_i l3) ?_
                    refine t_0 qct_227 rfl (pq_ia el_227 rfl ⟨by omega, by omega⟩) ?_
                    have r36 := fA_b g 227 ((D k : Int) - 1).toNat
                    refine t_3 qct_228 rfl (ar := ([oI ((fA g 222 k) / 1048576), oI (fA g 227 (((D k : Int) - 1) - 1).toNat), oI (fA g 227 ((D k : Int) - 1).toNat)], [oI (((D k : Int) - 1) - 1), pvR 227])) (pcal_s ⟨Or.inl rfl, rfl, Nat.le_of_ble_eq_true rfl⟩) ⟨by omega, Nat.le_of_ble_eq_true rfl, Nat.le_of_ble_eq_true rfl, rfl⟩ ?_
                    refine reckon_run ⟨by omega, by omega⟩ (fun z => ne_oI ⟨by omega, by omega⟩ (by omega)) rfl rfl rfl (fun z37 => ?_)
                    show t_X d 178 231 lv26 [.inl (z37), oI (((D k : Int) - 1) - 1), pvR 227] g P
                    refine tw_ax qct_231 hJ el_227 rfl w_a227 ga_227 ⟨by omega, by omega⟩ (fun g38 hJ38 a38 f38 => ?_)
                    replace f38 := fF_1 f38
                    show t_X d 178 232 lv26 [] g38 P
                    refine t_1 qct_232 rfl (pb_goto (pc := 232) (by decide)) ?_
                    show t_X d 178 16 lv26 [] g38 P
                    exact ih (k + 1) _ _ _ _ (by omega) (by omega) (by omega) (by omega) (by omega) hJ38 ((a38 222 (by decide)).trans hc) l0 l2 l3 l4 l5
                  · show t_X d 178 194 lv26 [] g P
                    refine t_0 qct_194 rfl (ld_a l0) ?_
                    refine t_0 qct_195 rfl (ar_47 hJ.1) ?_
                    refine t_0 qct_198 rfl (ld_i l3) ?_
                    refine t_0 qct_199 rfl (pq_ia el_227 rfl ⟨by omega, by omega⟩) ?_
                    have r39 := fA_b g 227 ((D k : Int) - 1).toNat
                    refine tz_ne qct_200 (by decide) ⟨by omega, by omega⟩ (fun c40 => ?_) (fun c40 => ?_)
                    · show t_X d 178 205 lv26 [] g P
                      refine t_0 qct_205 rfl (ld_a l0) ?_
                      refine t_0 qct_206 rfl (ar_47 hJ.1) ?_
                      refine t_0 qct_209 rfl (ld_i l3) ?_
                      refine t_0 qct_210 rfl rfl ?_
                      refine t_0 qct_211 rfl pq_sub ?_
                      refine t_0 qct_212 rfl (ld_i l6) ?_
                      refine t_0 qct_214 rfl (ld_a l0) ?_
                      refine t_0 qct_215 rfl (ar_47 hJ.1) ?_
                      refine t_0 qct_218 rfl (ld_i l3) ?_
                      refine t_0 qct_219 rfl rfl ?_
                      refine t_0 qct_220 rfl pq_sub ?_
                      refine t_0 qct_221 rfl (pq_ia el_227 rfl ⟨by omega, by omega⟩) ?_
                      have r41 := fA_b g 227 (((D k : Int) - 1) - 1).toNat
                      refine t_0 qct_222 rfl (ld_a l0) ?_
                      refine t_0 qct_223 rfl (ar_47 hJ.1) ?_
                      refine t_0 qct_226 rfl (ld_i l3) ?_
                      refine t_0 qct_227 rfl (pq_ia el_227 rfl ⟨by omega, by omega⟩) ?_
                      have r42 := fA_b g 227 ((D k : Int) - 1).toNat
                      refine t_3 qct_228 rfl (ar := ([oI ((fA g 222 k) / 1048576), oI (fA g 227 (((D k : Int) - 1) - 1).toNat), oI (fA g 227 ((D k : Int) - 1).toNat)], [oI (((D k : Int) - 1) - 1), pvR 227])) (pcal_s ⟨Or.inl rfl, rfl, Nat.le_of_ble_eq_true rfl⟩) ⟨by omega, Nat.le_of_ble_eq_true rfl, Nat.le_of_ble_eq_true rfl, rfl⟩ ?_
                      refine reckon_run ⟨by omega, by omega⟩ (fun z => ne_oI ⟨by omega, by omega⟩ (by omega)) rfl rfl rfl (fun z43 => ?_)
                      show t_X d 178 231 lv26 [.inl (z43), oI (((D k : Int) - 1) - 1), pvR 227] g P
                      refine tw_ax qct_231 hJ el_227 rfl w_a227 ga_227 ⟨by omega, by omega⟩ (fun g44 hJ44 a44 f44 => ?_)
                      replace f44 := fF_1 f44
                      show t_X d 178 232 lv26 [] g44 P
                      refine t_1 qct_232 rfl (pb_goto (pc := 232) (by decide)) ?_
                      show t_X d 178 16 lv26 [] g44 P
                      exact ih (k + 1) _ _ _ _ (by omega) (by omega) (by omega) (by omega) (by omega) hJ44 ((a44 222 (by decide)).trans hc) l0 l2 l3 l4 l5
                    · show t_X d 178 203 lv26 [] g P
                      refine t_0 qct_203 rfl rfl ?_
                      refine t_5 qct_204 rfl rfl ?_
                      exact hP _ _ ⟨by omega, by omega⟩ hJ
              · show t_X d 178 137 lv6 [] g P
                refine t_0 qct_137 rfl (ld_a l0) ?_
                refine t_0 qct_138 rfl (ar_47 hJ.1) ?_
                refine t_0 qct_141 rfl (ld_i l3) ?_
                refine t_0 qct_142 rfl rfl ?_
                refine t_0 qct_143 rfl pq_sub ?_
                refine t_0 qct_144 rfl (pq_ia el_227 rfl ⟨by omega, by omega⟩) ?_
                have r45 := fA_b g 227 ((D k : Int) - 1).toNat
                refine t_0 qct_145 rfl (ld_i l6) ?_
                refine t_0 qct_147 rfl (pq_b (by decide)) ?_
                refine tb_ne qct_149 (by decide) ⟨by omega, by omega⟩ ⟨by omega, by omega⟩ (fun c46 => ?_) (fun c46 => ?_)
                · show t_X d 178 156 lv6 [oI (fA g 227 ((D k : Int) - 1).toNat)] g P
                  refine t_0 qct_156 rfl rfl ?_
                  refine tb_ne qct_157 (by decide) ⟨by omega, by omega⟩ ⟨by omega, by omega⟩ (fun c47 => ?_) (fun c47 => ?_)
                  · show t_X d 178 170 lv6 [] g P
                    refine t_0 qct_170 rfl (ld_i l3) ?_
                    refine t_0 qct_171 rfl rfl ?_
                    refine t_0 qct_172 rfl pq_sub ?_
                    refine t_2 qct_173 rfl (w := (px_s1 lv6 3 (oI ((D k : Int) - 1)), [])) rfl ?_
                    replace l0 : px_lg (px_s1 lv6 3 (oI ((D k : Int) - 1))) 0 = some (pvR 196) := s1_ne (by decide) (fun _ => rfl) l0
                    replace l2 : px_lg (px_s1 lv6 3 (oI ((D k : Int) - 1))) 2 = some (oI (b)) := s1_ne (by decide) (fun _ => rfl) l2
                    replace l4 : px_lg (px_s1 lv6 3 (oI ((D k : Int) - 1))) 4 = some (oI (0)) := s1_ne (by decide) (fun _ => rfl) l4
                    replace l6 : px_lg (px_s1 lv6 3 (oI ((D k : Int) - 1))) 6 = some (oI ((fA g 222 k) / 1048576)) := s1_ne (by decide) (fun _ => rfl) l6
                    replace l7 : px_lg (px_s1 lv6 3 (oI ((D k : Int) - 1))) 7 = some (oI ((fA g 222 k) % 1048576)) := s1_ne (by decide) (fun _ => rfl) l7
                    replace l5 : px_lg (px_s1 lv6 3 (oI ((D k : Int) - 1))) 5 = some (oI ((k : Int) + 1)) := s1_ne (by decide) (fun _ => rfl) l5
                    have l3 : px_lg (px_s1 lv6 3 (oI ((D k : Int) - 1))) 3 = some (oI ((D k : Int) - 1)) := s1_eq
                    generalize px_s1 lv6 3 (oI ((D k : Int) - 1)) = lv48 at l0 l2 l4 l6 l7 l5 l3 ⊢
                    show t_X d 178 174 lv48 [] g P
                    refine t_1 qct_174 rfl (pb_goto (pc := 174) (by decide)) ?_
                    show t_X d 178 232 lv48 [] g P
                    refine t_1 qct_232 rfl (pb_goto (pc := 232) (by decide)) ?_
                    show t_X d 178 16 lv48 [] g P
                    exact ih (k + 1) _ _ _ _ (by omega) (by omega) (by omega) (by omega) (by omega) hJ hc l0 l2 l3 l4 l5
                  · show t_X d 178 160 lv6 [] g P
                    refine t_0 qct_160 rfl (ld_i l4) ?_
                    refine t_0 qct_162 rfl (ld_i l7) ?_
                    refine t_0 qct_164 rfl pq_add ?_
                    refine t_2 qct_165 rfl (w := (px_s1 lv6 5 (oI (0 + ((fA g 222 k) % 1048576))), [])) rfl ?_
                    replace l0 : px_lg (px_s1 lv6 5 (oI (0 + ((fA g 222 k) % 1048576)))) 0 = some (pvR 196) := s1_ne (by decide) (fun _ => rfl) l0
                    replace l2 : px_lg (px_s1 lv6 5 (oI (0 + ((fA g 222 k) % 1048576)))) 2 = some (oI (b)) := s1_ne (by decide) (fun _ => rfl) l2
                    replace l3 : px_lg (px_s1 lv6 5 (oI (0 + ((fA g 222 k) % 1048576)))) 3 = some (oI ((D k : Int))) := s1_ne (by decide) (fun _ => rfl) l3
                    replace l4 : px_lg (px_s1 lv6 5 (oI (0 + ((fA g 222 k) % 1048576)))) 4 = some (oI (0)) := s1_ne (by decide) (fun _ => rfl) l4
                    replace l6 : px_lg (px_s1 lv6 5 (oI (0 + ((fA g 222 k) % 1048576)))) 6 = some (oI ((fA g 222 k) / 1048576)) := s1_ne (by decide) (fun _ => rfl) l6
                    replace l7 : px_lg (px_s1 lv6 5 (oI (0 + ((fA g 222 k) % 1048576)))) 7 = some (oI ((fA g 222 k) % 1048576)) := s1_ne (by decide) (fun _ => rfl) l7
                    have l5 : px_lg (px_s1 lv6 5 (oI (0 + ((fA g 222 k) % 1048576)))) 5 = some (oI (0 + ((fA g 222 k) % 1048576))) := s1_eq
                    generalize px_s1 lv6 5 (oI (0 + ((fA g 222 k) % 1048576))) = lv49 at l0 l2 l3 l4 l6 l7 l5 ⊢
                    show t_X d 178 167 lv49 [] g P
                    refine t_1 qct_167 rfl (pb_goto (pc := 167) (by decide)) ?_
                    show t_X d 178 232 lv49 [] g P
                    refine t_1 qct_232 rfl (pb_goto (pc := 232) (by decide)) ?_
                    show t_X d 178 16 lv49 [] g P
                    exact ih (fA g 222 k % 1048576).toNat _ _ _ _ (by omega) (by omega) (by omega) (by omega) (by omega) hJ hc l0 l2 l3 l4 l5
                · show t_X d 178 152 lv6 [oI (fA g 227 ((D k : Int) - 1).toNat)] g P
                  refine t_0 qct_152 rfl rfl ?_
                  refine t_1 qct_153 rfl (pb_goto (pc := 153) (by decide)) ?_
                  show t_X d 178 157 lv6 [oI (1), oI (fA g 227 ((D k : Int) - 1).toNat)] g P
                  refine tb_ne qct_157 (by decide) ⟨by omega, by omega⟩ ⟨by omega, by omega⟩ (fun c50 => ?_) (fun c50 => ?_)
                  · show t_X d 178 170 lv6 [] g P
                    refine t_0 qct_170 rfl (ld_i l3) ?_
                    refine t_0 qct_171 rfl rfl ?_
                    refine t_0 qct_172 rfl pq_sub ?_
                    refine t_2 qct_173 rfl (w := (px_s1 lv6 3 (oI ((D k : Int) - 1)), [])) rfl ?_
                    replace l0 : px_lg (px_s1 lv6 3 (oI ((D k : Int) - 1))) 0 = some (pvR 196) := s1_ne (by decide) (fun _ => rfl) l0
                    replace l2 : px_lg (px_s1 lv6 3 (oI ((D k : Int) - 1))) 2 = some (oI (b)) := s1_ne (by decide) (fun _ => rfl) l2
                    replace l4 : px_lg (px_s1 lv6 3 (oI ((D k : Int) - 1))) 4 = some (oI (0)) := s1_ne (by decide) (fun _ => rfl) l4
                    replace l6 : px_lg (px_s1 lv6 3 (oI ((D k : Int) - 1))) 6 = some (oI ((fA g 222 k) / 1048576)) := s1_ne (by decide) (fun _ => rfl) l6
                    replace l7 : px_lg (px_s1 lv6 3 (oI ((D k : Int) - 1))) 7 = some (oI ((fA g 222 k) % 1048576)) := s1_ne (by decide) (fun _ => rfl) l7
                    replace l5 : px_lg (px_s1 lv6 3 (oI ((D k : Int) - 1))) 5 = some (oI ((k : Int) + 1)) := s1_ne (by decide) (fun _ => rfl) l5
                    have l3 : px_lg (px_s1 lv6 3 (oI ((D k : Int) - 1))) 3 = some (oI ((D k : Int) - 1)) := s1_eq
                    generalize px_s1 lv6 3 (oI ((D k : Int) - 1)) = lv51 at l0 l2 l4 l6 l7 l5 l3 ⊢
                    show t_X d 178 174 lv51 [] g P
                    refine t_1 qct_174 rfl (pb_goto (pc := 174) (by decide)) ?_
                    show t_X d 178 232 lv51 [] g P
                    refine t_1 qct_232 rfl (pb_goto (pc := 232) (by decide)) ?_
                    show t_X d 178 16 lv51 [] g P
                    exact ih (k + 1) _ _ _ _ (by omega) (by omega) (by omega) (by omega) (by omega) hJ hc l0 l2 l3 l4 l5
                  · show t_X d 178 160 lv6 [] g P
                    refine t_0 qct_160 rfl (ld_i l4) ?_
                    refine t_0 qct_162 rfl (ld_i l7) ?_
                    refine t_0 qct_164 rfl pq_add ?_
                    refine t_2 qct_165 rfl (w := (px_s1 lv6 5 (oI (0 + ((fA g 222 k) % 1048576))), [])) rfl ?_
                    replace l0 : px_lg (px_s1 lv6 5 (oI (0 + ((fA g 222 k) % 1048576)))) 0 = some (pvR 196) := s1_ne (by decide) (fun _ => rfl) l0
                    replace l2 : px_lg (px_s1 lv6 5 (oI (0 + ((fA g 222 k) % 1048576)))) 2 = some (oI (b)) := s1_ne (by decide) (fun _ => rfl) l2
                    replace l3 : px_lg (px_s1 lv6 5 (oI (0 + ((fA g 222 k) % 1048576)))) 3 = some (oI ((D k : Int))) := s1_ne (by decide) (fun _ => rfl) l3
                    replace l4 : px_lg (px_s1 lv6 5 (oI (0 + ((fA g 222 k) % 1048576)))) 4 = some (oI (0)) := s1_ne (by decide) (fun _ => rfl) l4
                    replace l6 : px_lg (px_s1 lv6 5 (oI (0 + ((fA g 222 k) % 1048576)))) 6 = some (oI ((fA g 222 k) / 1048576)) := s1_ne (by decide) (fun _ => rfl) l6
                    replace l7 : px_lg (px_s1 lv6 5 (oI (0 + ((fA g 222 k) % 1048576)))) 7 = some (oI ((fA g 222 k) % 1048576)) := s1_ne (by decide) (fun _ => rfl) l7
                    have l5 : px_lg (px_s1 lv6 5 (oI (0 + ((fA g 222 k) % 1048576)))) 5 = some (oI (0 + ((fA g 222 k) % 1048576))) := s1_eq
                    generalize px_s1 lv6 5 (oI (0 + ((fA g 222 k) % 1048576))) = lv52 at l0 l2 l3 l4 l6 l7 l5 ⊢
                    show t_X d 178 167 lv52 [] g P
                    refine t_1 qct_167 rfl (pb_goto (pc := 167) (by decide)) ?_
                    show t_X d 178 232 lv52 [] g P
                    refine t_1 qct_232 rfl (pb_goto (pc := 232) (by decide)) ?_
                    show t_X d 178 16 lv52 [] g P
                    exact ih (fA g 222 k % 1048576).toNat _ _ _ _ (by omega) (by omega) (by omega) (by omega) (by omega) hJ hc l0 l2 l3 l4 l5
          · show t_X d 178 102 lv6 [] g P
            refine t_0 qct_102 rfl (ld_a l0) ?_
            refine t_0 qct_103 rfl (ar_47 hJ.1) ?_
            refine t_0 qct_106 rfl (ld_i l3) ?_
            refine t_0 qct_107 rfl rfl ?_
            refine t_0 qct_108 rfl pq_sub ?_
            refine t_0 qct_109 rfl rfl ?_
            refine t_0 qct_110 rfl (ld_a l0) ?_
            refine t_0 qct_111 rfl (ar_47 hJ.1) ?_
            refine t_0 qct_114 rfl (ld_i l3) ?_
            refine t_0 qct_115 rfl rfl ?_
            refine t_0 qct_116 rfl pq_sub ?_
            refine t_0 qct_117 rfl (pq_ia el_227 rfl ⟨by omega, by omega⟩) ?_
            have r53 := fA_b g 227 ((D k : Int) - 1).toNat
            refine t_0 qct_118 rfl pq_sub ?_
            refine tw_ax qct_119 hJ el_227 rfl w_a227 ga_227 ⟨by omega, by omega⟩ (fun g54 hJ54 a54 f54 => ?_)
            replace f54 := fF_1 f54
            show t_X d 178 120 lv6 [] g54 P
            refine t_1 qct_120 rfl (pb_goto (pc := 120) (by decide)) ?_
            show t_X d 178 232 lv6 [] g54 P
            refine t_1 qct_232 rfl (pb_goto (pc := 232) (by decide)) ?_
            show t_X d 178 16 lv6 [] g54 P
            exact ih (k + 1) _ _ _ _ (by omega) (by omega) (by omega) (by omega) (by omega) hJ54 ((a54 222 (by decide)).trans hc) l0 l2 l3 l4 l5
        · show t_X d 178 65 lv6 [] g P
          refine t_0 qct_65 rfl (ld_a l0) ?_
          refine t_0 qct_66 rfl (ar_47 hJ.1) ?_
          refine t_0 qct_69 rfl (ld_i l3) ?_
          refine t_0 qct_70 rfl (ld_i l6) ?_
          refine tz_ne qct_72 (by decide) ⟨by omega, by omega⟩ (fun c55 => ?_) (fun c55 => ?_)
          · show t_X d 178 80 lv6 [oI ((D k : Int)), pvR 227] g P
            refine t_0 qct_80 rfl (ld_a l0) ?_
            refine t_0 qct_81 rfl (ar_48 hJ.1) ?_
            refine t_0 qct_84 rfl (ld_i l7) ?_
            refine t_0 qct_86 rfl (pq_ia el_228 rfl ⟨by omega, by omega⟩) ?_
            have r56 := fA_b g 228 ((fA g 222 k) % 1048576).toNat
            refine tw_a qct_87 hJ el_227 rfl w_a227 ga_227 (by decide) ⟨by omega, by omega⟩ ⟨by omega, by omega⟩ (fun g57 hJ57 a57 v57 b57 f57 => ?_)
            replace f57 := fF_1 f57
            show t_X d 178 88 lv6 [] g57 P
            refine t_0 qct_88 rfl (ld_i l3) ?_
            refine t_0 qct_89 rfl rfl ?_
            refine t_0 qct_90 rfl pq_add ?_
            refine t_2 qct_91 rfl (w := (px_s1 lv6 3 (oI ((D k : Int) + 1)), [])) rfl ?_
            replace l0 : px_lg (px_s1 lv6 3 (oI ((D k : Int) + 1))) 0 = some (pvR 196) := s1_ne (by decide) (fun _ => rfl) l0
            replace l2 : px_lg (px_s1 lv6 3 (oI ((D k : Int) + 1))) 2 = some (oI (b)) := s1_ne (by decide) (fun _ => rfl) l2
            replace l4 : px_lg (px_s1 lv6 3 (oI ((D k : Int) + 1))) 4 = some (oI (0)) := s1_ne (by decide) (fun _ => rfl) l4
            replace l6 : px_lg (px_s1 lv6 3 (oI ((D k : Int) + 1))) 6 = some (oI ((fA g 222 k) / 1048576)) := s1_ne (by decide) (fun _ => rfl) l6
            replace l7 : px_lg (px_s1 lv6 3 (oI ((D k : Int) + 1))) 7 = some (oI ((fA g 222 k) % 1048576)) := s1_ne (by decide) (fun _ => rfl) l7
            replace l5 : px_lg (px_s1 lv6 3 (oI ((D k : Int) + 1))) 5 = some (oI ((k : Int) + 1)) := s1_ne (by decide) (fun _ => rfl) l5
            have l3 : px_lg (px_s1 lv6 3 (oI ((D k : Int) + 1))) 3 = some (oI ((D k : Int) + 1)) := s1_eq
            generalize px_s1 lv6 3 (oI ((D k : Int) + 1)) = lv58 at l0 l2 l4 l6 l7 l5 l3 ⊢
            show t_X d 178 92 lv58 [] g57 P
            refine t_1 qct_92 rfl (pb_goto (pc := 92) (by decide)) ?_
            show t_X d 178 232 lv58 [] g57 P
            refine t_1 qct_232 rfl (pb_goto (pc := 232) (by decide)) ?_
            show t_X d 178 16 lv58 [] g57 P
            exact ih (k + 1) _ _ _ _ (by omega) (by omega) (by omega) (by omega) (by omega) hJ57 ((a57 222 (by decide)).trans hc) l0 l2 l3 l4 l5
          · show t_X d 178 75 lv6 [oI ((D k : Int)), pvR 227] g P
            refine t_0 qct_75 rfl (ld_i l7) ?_
            refine t_1 qct_77 rfl (pb_goto (pc := 77) (by decide)) ?_
            show t_X d 178 87 lv6 [oI ((fA g 222 k) % 1048576), oI ((D k : Int)), pvR 227] g P
            refine tw_a qct_87 hJ el_227 rfl w_a227 ga_227 (by decide) ⟨by omega, by omega⟩ ⟨by omega, by omega⟩ (fun g59 hJ59 a59 v59 b59 f59 => ?_)
            replace f59 := fF_1 f59
            show t_X d 178 88 lv6 [] g59 P
            refine t_0 qct_88 rfl (ld_i l3) ?_
            refine t_0 qct_89 rfl rfl ?_
            refine t_0 qct_90 rfl pq_add ?_
            refine t_2 qct_91 rfl (w := (px_s1 lv6 3 (oI ((D k : Int) + 1)), [])) rfl ?_
            replace l0 : px_lg (px_s1 lv6 3 (oI ((D k : Int) + 1))) 0 = some (pvR 196) := s1_ne (by decide) (fun _ => rfl) l0
            replace l2 : px_lg (px_s1 lv6 3 (oI ((D k : Int) + 1))) 2 = some (oI (b)) := s1_ne (by decide) (fun _ => rfl) l2
            replace l4 : px_lg (px_s1 lv6 3 (oI ((D k : Int) + 1))) 4 = some (oI (0)) := s1_ne (by decide) (fun _ => rfl) l4
            replace l6 : px_lg (px_s1 lv6 3 (oI ((D k : Int) + 1))) 6 = some (oI ((fA g 222 k) / 1048576)) := s1_ne (by decide) (fun _ => rfl) l6
            replace l7 : px_lg (px_s1 lv6 3 (oI ((D k : Int) + 1))) 7 = some (oI ((fA g 222 k) % 1048576)) := s1_ne (by decide) (fun _ => rfl) l7
            replace l5 : px_lg (px_s1 lv6 3 (oI ((D k : Int) + 1))) 5 = some (oI ((k : Int) + 1)) := s1_ne (by decide) (fun _ => rfl) l5
            have l3 : px_lg (px_s1 lv6 3 (oI ((D k : Int) + 1))) 3 = some (oI ((D k : Int) + 1)) := s1_eq
            generalize px_s1 lv6 3 (oI ((D k : Int) + 1)) = lv60 at l0 l2 l4 l6 l7 l5 l3 ⊢
            show t_X d 178 92 lv60 [] g59 P
            refine t_1 qct_92 rfl (pb_goto (pc := 92) (by decide)) ?_
            show t_X d 178 232 lv60 [] g59 P
            refine t_1 qct_232 rfl (pb_goto (pc := 232) (by decide)) ?_
            show t_X d 178 16 lv60 [] g59 P
            exact ih (k + 1) _ _ _ _ (by omega) (by omega) (by omega) (by omega) (by omega) hJ59 ((a59 222 (by decide)).trans hc) l0 l2 l3 l4 l5
    · have hkb2 : (k : Int) = b := by omega
      refine t_0 qct_16 rfl (ld_i l5) ?_
      refine t_0 qct_18 rfl (ld_i l2) ?_
      refine tb_ge qct_19 (by decide) ⟨by omega, by omega⟩ ⟨by omega, by omega⟩ (fun c1 => ?_) (fun c1 => absurd c1 (by omega))
      show t_X d 178 235 lv [] g P
      refine t_0 qct_235 rfl (ld_a l0) ?_
      refine t_0 qct_236 rfl (ar_47 hJ.1) ?_
      refine t_0 qct_239 rfl rfl ?_
      refine t_0 qct_240 rfl (pq_ia (e := 0) el_227 rfl ⟨by omega, by omega⟩) ?_
      refine t_5 qct_241 rfl rfl ?_
      exact hP _ _ (fA_b _ _ _) hJ
set_option maxHeartbeats 4000000 in
theorem ct_run {d W : Nat} (hd : 1 ≤ d) (w_a227 : W.testBit (cn 227) = true) {h0 g : pH} {c : Nat → Int} {a b : Int} {D : Nat → Nat} (hC : cOK c D a b) {P : Option pv × pH → Prop} (hP : ∀ (g : pH) (z : Int), -2147483648 ≤ z ∧ z ≤ 2147483647 → J_ W h0 g → P (some (oI z), g)) {lv : List (Nat × pv)} (hJ : J_ W h0 g) (hc : fA g 222 = c) (l0 : px_lg lv 0 = some (pvR 196)) (l1 : px_lg lv 1 = some (oI a)) (l2 : px_lg lv 2 = some (oI b)) : t_X d 178 0 lv [] g P := by
  have hC1 := hC.1
  have hC2 := hC.2.1
  have hC3 := hC.2.2.1
  have hC4 := hC.2.2.2.1
  have hb0 : 260 * (a / 260) = 0 := by omega
  refine t_0 qct_0 rfl rfl ?_
  refine t_2 qct_1 rfl (w := (px_s1 lv 3 (oI (0)), [])) rfl ?_
  replace l0 : px_lg (px_s1 lv 3 (oI (0))) 0 = some (pvR 196) := s1_ne (by decide) (fun _ => rfl) l0
  replace l1 : px_lg (px_s1 lv 3 (oI (0))) 1 = some (oI (a)) := s1_ne (by decide) (fun _ => rfl) l1
  replace l2 : px_lg (px_s1 lv 3 (oI (0))) 2 = some (oI (b)) := s1_ne (by decide) (fun _ => rfl) l2
  have l3 : px_lg (px_s1 lv 3 (oI (0))) 3 = some (oI (0)) := s1_eq
  generalize px_s1 lv 3 (oI (0)) = lv1 at l0 l1 l2 l3 ⊢
  show t_X d 178 2 lv1 [] g P
  refine t_0 qct_2 rfl (pq_s (by decide)) ?_
  refine t_0 qct_5 rfl (ld_i l1) ?_
  refine t_0 qct_6 rfl (pq_s (by decide)) ?_
  refine t_0 qct_9 rfl (pq_div ⟨by omega, by omega⟩ ⟨by omega, by omega⟩) ?_
  refine t_0 qct_10 rfl pq_mul ?_
  refine t_2 qct_11 rfl (w := (px_s1 lv1 4 (oI (260 * (a / 260))), [])) rfl ?_
  replace l0 : px_lg (px_s1 lv1 4 (oI (260 * (a / 260)))) 0 = some (pvR 196) := s1_ne (by decide) (fun _ => rfl) l0
  replace l1 : px_lg (px_s1 lv1 4 (oI (260 * (a / 260)))) 1 = some (oI (a)) := s1_ne (by decide) (fun _ => rfl) l1
  replace l2 : px_lg (px_s1 lv1 4 (oI (260 * (a / 260)))) 2 = some (oI (b)) := s1_ne (by decide) (fun _ => rfl) l2
  replace l3 : px_lg (px_s1 lv1 4 (oI (260 * (a / 260)))) 3 = some (oI (0)) := s1_ne (by decide) (fun _ => rfl) l3
  have l4 : px_lg (px_s1 lv1 4 (oI (260 * (a / 260)))) 4 = some (oI (260 * (a / 260))) := s1_eq
  generalize px_s1 lv1 4 (oI (260 * (a / 260))) = lv2 at l0 l1 l2 l3 l4 ⊢
  show t_X d 178 13 lv2 [] g P
  refine t_0 qct_13 rfl (ld_i l1) ?_
  refine t_2 qct_14 rfl (w := (px_s1 lv2 5 (oI (a)), [])) rfl ?_
  replace l0 : px_lg (px_s1 lv2 5 (oI (a))) 0 = some (pvR 196) := s1_ne (by decide) (fun _ => rfl) l0
  replace l1 : px_lg (px_s1 lv2 5 (oI (a))) 1 = some (oI (a)) := s1_ne (by decide) (fun _ => rfl) l1
  replace l2 : px_lg (px_s1 lv2 5 (oI (a))) 2 = some (oI (b)) := s1_ne (by decide) (fun _ => rfl) l2
  replace l3 : px_lg (px_s1 lv2 5 (oI (a))) 3 = some (oI (0)) := s1_ne (by decide) (fun _ => rfl) l3
  replace l4 : px_lg (px_s1 lv2 5 (oI (a))) 4 = some (oI (260 * (a / 260))) := s1_ne (by decide) (fun _ => rfl) l4
  have l5 : px_lg (px_s1 lv2 5 (oI (a))) 5 = some (oI (a)) := s1_eq
  generalize px_s1 lv2 5 (oI (a)) = lv3 at l0 l1 l2 l3 l4 l5 ⊢
  show t_X d 178 16 lv3 [] g P
  exact ct_loop hd w_a227 hC hP b.toNat a.toNat _ _ _ _ (by omega) (by omega) (by omega) (by omega) (by rw [hC4]; rfl) hJ hc l0 l2 l3 (by rw [l4]; exact congrArg (fun u => some (oI u)) hb0) l5
def xL (h : pH) : Prop := ∀ q : Nat, (q : Int) < fF h 35 → ∃ D1 D2 : Nat → Nat, cOK (fA h 222) D1 (fA h 224 q) (fA h 225 q) ∧ cOK (fA h 222) D2 (fA h 225 q) (fA h 226 q)
theorem dx_t : eDX.testBit (cn 196 + 35) = true ∧ eDX.testBit (cn 222) = true ∧ eDX.testBit (cn 224) = true ∧ eDX.testBit (cn 225) = true ∧ eDX.testBit (cn 226) = true := by decide +kernel
theorem dx_f {V i : Nat} (h : V &&& eDX = 0) (hi : eDX.testBit i = true) : V.testBit i = false := by
  have : (V &&& eDX).testBit i = false := by rw [h, Nat.zero_testBit]
  rw [Nat.testBit_and, hi, Bool.and_true] at this
  exact this
theorem fF_M {V : Nat} {h h' : pH} (hM : f_M V h h') {y : Nat} (hy : V.testBit (cn 196 + y) = false) : fF h' y = fF h y := congrArg Int32.toInt (hM.1 196 y hy).1
theorem fA_M {V : Nat} {h h' : pH} (hM : f_M V h h') {k : Nat} (hy : V.testBit (cn k) = false) : fA h' k = fA h k := by
  funext j
  show (h'.2.2.2.1 k j).toInt = (h.2.2.2.1 k j).toInt
  rw [(hM.2 k hy).1]
theorem xL_e {h h' : pH} (e0 : fF h' 35 = fF h 35) (e1 : fA h' 222 = fA h 222) (e2 : fA h' 224 = fA h 224) (e3 : fA h' 225 = fA h 225) (e4 : fA h' 226 = fA h 226) (hx : xL h) : xL h' := by
  intro q hq
  rw [e0] at hq
  rw [e1, e2, e3, e4]
  exact hx q hq
theorem xL_K : x_K xL eDX := fun V h h' hM hV hx => xL_e (fF_M hM (dx_f hV dx_t.1)) (fA_M hM (dx_f hV dx_t.2.1)) (fA_M hM (dx_f hV dx_t.2.2.1)) (fA_M hM (dx_f hV dx_t.2.2.2.1)) (fA_M hM (dx_f hV dx_t.2.2.2.2)) hx
set_option maxHeartbeats 8000000 in
theorem bl_loop {d W : Nat} (hd : 2 ≤ d) (w_a227 : W.testBit (cn 227) = true) (hDX : W &&& eDX = 0) {h0 : pH} (hx0 : xL h0) {a b : Int} (ha : -2147483648 ≤ a ∧ a ≤ 2147483647) (hb : 0 ≤ b ∧ b ≤ 999) {P : Option pv × pH → Prop} (hP : ∀ (g : pH) (z : Int), 0 ≤ z → z ≤ b → J_ W h0 g → P (some (oI z), g)) (s_35 : ∀ g : pH, J_ W h0 g → fF g 35 = fF h0 35) : ∀ (m q : Nat) (g : pH) (lv : List (Nat × pv)), fF h0 35 - q ≤ m → (q : Int) ≤ 16 → J_ W h0 g → px_lg lv 0 = some (pvR 196) → px_lg lv 1 = some (oI a) → px_lg lv 2 = some (oI b) → px_lg lv 3 = some (oI (q : Int)) → t_X d 173 2 lv [] g P := by
  intro m
  induction m with
  | zero =>
    intro q g lv hm hq hJ l0 l1 l2 l3
    have h35 := s_35 g hJ
    refine t_0 qbl_2 rfl (ld_i l3) ?_
    refine t_0 qbl_3 rfl (ld_a l0) ?_
    have r1 := gb_f hJ.1 (y := 35) rfl rfl gf_35
    refine t_0 qbl_4 rfl (pq_gf (y := 35) rfl) ?_
    refine tb_ge qbl_7 (by decide) ⟨by omega, by omega⟩ ⟨by omega, by omega⟩ (fun c2 => ?_) (fun c2 => absurd c2 (by omega))
    show t_X d 173 89 lv [] g P
    refine t_0 qbl_89 rfl rfl ?_
    refine t_5 qbl_90 rfl rfl ?_
    exact hP _ _ (by omega) (by omega) hJ
  | succ m ih =>
    intro q g lv hm hq hJ l0 l1 l2 l3
    have h35 := s_35 g hJ
    have hb35 := gb_f hJ.1 (y := 35) rfl rfl gf_35
    by_cases hlt : fF g 35 ≤ q
    · refine t_0 qbl_2 rfl (ld_i l3) ?_
      refine t_0 qbl_3 rfl (ld_a l0) ?_
      have r1 := gb_f hJ.1 (y := 35) rfl rfl gf_35
      refine t_0 qbl_4 rfl (pq_gf (y := 35) rfl) ?_
      refine tb_ge qbl_7 (by decide) ⟨by omega, by omega⟩ ⟨by omega, by omega⟩ (fun c2 => ?_) (fun c2 => absurd c2 (by omega))
      show t_X d 173 89 lv [] g P
      refine t_0 qbl_89 rfl rfl ?_
      refine t_5 qbl_90 rfl rfl ?_
      exact hP _ _ (by omega) (by omega) hJ
    have hxg : xL g := xL_K _ _ _ hJ.2 hDX hx0
    obtain ⟨D1, D2, hx1, hx2⟩ := hxg q (by omega)
    refine t_0 qbl_2 rfl (ld_i l3) ?_
    refine t_0 qbl_3 rfl (ld_a l0) ?_
    have r1 := gb_f hJ.1 (y := 35) rfl rfl gf_35
    refine t_0 qbl_4 rfl (pq_gf (y := 35) rfl) ?_
    refine tb_ge qbl_7 (by decide) ⟨by omega, by omega⟩ ⟨by omega, by omega⟩ (fun c2 => absurd c2 (by omega)) (fun c2 => ?_)
    show t_X d 173 10 lv [] g P
    refine t_0 qbl_10 rfl (ld_a l0) ?_
    refine t_0 qbl_11 rfl (ar_43 hJ.1) ?_
    refine t_0 qbl_14 rfl (ld_i l3) ?_
    refine t_0 qbl_15 rfl (pq_ia el_223 rfl ⟨by omega, by omega⟩) ?_
    show t_X d 173 16 lv [oI (fA g 223 q)] g P
    have r3 := fA_b g 223 q
    refine t_0 qbl_16 rfl (ld_i l1) ?_
    refine tb_ne qbl_17 (by decide) ⟨by omega, by omega⟩ ⟨by omega, by omega⟩ (fun c4 => ?_) (fun c4 => ?_)
    · show t_X d 173 83 lv [] g P
      refine t_2 qbl_83 rfl (w := (px_s1 lv 3 (oI ((q : Int) + 1)), [])) (pq_inc l3 (by decide)) ?_
      replace l0 : px_lg (px_s1 lv 3 (oI ((q : Int) + 1))) 0 = some (pvR 196) := s1_ne (by decide) (fun _ => rfl) l0
      replace l1 : px_lg (px_s1 lv 3 (oI ((q : Int) + 1))) 1 = some (oI (a)) := s1_ne (by decide) (fun _ => rfl) l1
      replace l2 : px_lg (px_s1 lv 3 (oI ((q : Int) + 1))) 2 = some (oI (b)) := s1_ne (by decide) (fun _ => rfl) l2
      have l3 : px_lg (px_s1 lv 3 (oI ((q : Int) + 1))) 3 = some (oI ((q : Int) + 1)) := s1_eq
      generalize px_s1 lv 3 (oI ((q : Int) + 1)) = lv5 at l0 l1 l2 l3 ⊢
      show t_X d 173 86 lv5 [] g P
      refine t_1 qbl_86 rfl (pb_goto (pc := 86) (by decide)) ?_
      show t_X d 173 2 lv5 [] g P
      exact ih (q + 1) _ _ (by have := s_35 _ hJ; omega) (by omega) hJ l0 l1 l2 l3
    · show t_X d 173 20 lv [] g P
      refine t_0 qbl_20 rfl (ld_a l0) ?_
      refine t_0 qbl_21 rfl (ld_a l0) ?_
      refine t_0 qbl_22 rfl (ar_45 hJ.1) ?_
      refine t_0 qbl_25 rfl (ld_i l3) ?_
      refine t_0 qbl_26 rfl (pq_ia el_225 rfl ⟨by omega, by omega⟩) ?_
      show t_X d 173 27 lv [oI (fA g 225 q), pvR 196] g P
      have r6 := fA_b g 225 q
      refine t_0 qbl_27 rfl (ld_a l0) ?_
      refine t_0 qbl_28 rfl (ar_46 hJ.1) ?_
      refine t_0 qbl_31 rfl (ld_i l3) ?_
      refine t_0 qbl_32 rfl (pq_ia el_226 rfl ⟨by omega, by omega⟩) ?_
      show t_X d 173 33 lv [oI (fA g 226 q), oI (fA g 225 q), pvR 196] g P
      have r7 := fA_b g 226 q
      refine t_3 qbl_33 rfl (ar := ([pvR 196, oI (fA g 225 q), oI (fA g 226 q)], [])) (pcal_v2 rfl rfl el_196) ⟨by omega, Nat.le_of_ble_eq_true rfl, Nat.le_of_ble_eq_true rfl, rfl⟩ ?_
      refine ct_run (by omega) w_a227 hx2 (P := _) (fun g8 z8 hz8 hJ8 => ?_) hJ rfl rfl rfl rfl
      show t_X d 173 36 lv [oI (z8)] g8 P
      obtain ⟨D3, D4, hy1, hy2⟩ := xL_K _ _ _ hJ8.2 hDX hx0 q (by have := s_35 _ hJ8; omega)
      refine t_0 qbl_36 rfl rfl ?_
      refine tb_eq qbl_37 (by decide) ⟨by omega, by omega⟩ ⟨by omega, by omega⟩ (fun c9 => ?_) (fun c9 => ?_)
      · show t_X d 173 43 lv [] g8 P
        refine t_0 qbl_43 rfl (ld_a l0) ?_
        refine t_0 qbl_44 rfl (ld_a l0) ?_
        refine t_0 qbl_45 rfl (ar_44 hJ8.1) ?_
        refine t_0 qbl_48 rfl (ld_i l3) ?_
        refine t_0 qbl_49 rfl (pq_ia el_224 rfl ⟨by omega, by omega⟩) ?_
        show t_X d 173 50 lv [oI (fA g8 224 q), pvR 196] g8 P
        have r10 := fA_b g8 224 q
        refine t_0 qbl_50 rfl (ld_a l0) ?_
        refine t_0 qbl_51 rfl (ar_45 hJ8.1) ?_
        refine t_0 qbl_54 rfl (ld_i l3) ?_
        refine t_0 qbl_55 rfl (pq_ia el_225 rfl ⟨by omega, by omega⟩) ?_
        show t_X d 173 56 lv [oI (fA g8 225 q), oI (fA g8 224 q), pvR 196] g8 P
        have r11 := fA_b g8 225 q
        refine t_3 qbl_56 rfl (ar := ([pvR 196, oI (fA g8 224 q), oI (fA g8 225 q)], [])) (pcal_v2 rfl rfl el_196) ⟨by omega, Nat.le_of_ble_eq_true rfl, Nat.le_of_ble_eq_true rfl, rfl⟩ ?_
        refine ct_run (by omega) w_a227 hy1 (P := _) (fun g12 z12 hz12 hJ12 => ?_) hJ8 rfl rfl rfl rfl
        show t_X d 173 59 lv [oI (z12)] g12 P
        refine t_2 qbl_59 rfl (w := (px_s1 lv 4 (oI (z12)), [])) rfl ?_
        replace l0 : px_lg (px_s1 lv 4 (oI (z12))) 0 = some (pvR 196) := s1_ne (by decide) (fun _ => rfl) l0
        replace l1 : px_lg (px_s1 lv 4 (oI (z12))) 1 = some (oI (a)) := s1_ne (by decide) (fun _ => rfl) l1
        replace l2 : px_lg (px_s1 lv 4 (oI (z12))) 2 = some (oI (b)) := s1_ne (by decide) (fun _ => rfl) l2
        replace l3 : px_lg (px_s1 lv 4 (oI (z12))) 3 = some (oI ((q : Int))) := s1_ne (by decide) (fun _ => rfl) l3
        have l4 : px_lg (px_s1 lv 4 (oI (z12))) 4 = some (oI (z12)) := s1_eq
        generalize px_s1 lv 4 (oI (z12)) = lv13 at l0 l1 l2 l3 l4 ⊢
        show t_X d 173 61 lv13 [] g12 P
        refine t_0 qbl_61 rfl (ld_i l4) ?_
        refine tz_ge qbl_63 (by decide) ⟨by omega, by omega⟩ (fun c14 => ?_) (fun c14 => ?_)
        · show t_X d 173 70 lv13 [] g12 P
          refine t_0 qbl_70 rfl (ld_i l4) ?_
          refine t_0 qbl_72 rfl (ld_i l2) ?_
          refine tb_le qbl_73 (by decide) ⟨by omega, by omega⟩ ⟨by omega, by omega⟩ (fun c15 => ?_) (fun c15 => ?_)
          · show t_X d 173 80 lv13 [] g12 P
            refine t_0 qbl_80 rfl (ld_i l4) ?_
            refine t_5 qbl_82 rfl rfl ?_
            exact hP _ _ (by omega) (by omega) hJ12
          · show t_X d 173 76 lv13 [] g12 P
            refine t_0 qbl_76 rfl (ld_i l2) ?_
            refine t_1 qbl_77 rfl (pb_goto (pc := 77) (by decide)) ?_
            show t_X d 173 82 lv13 [oI (b)] g12 P
            refine t_5 qbl_82 rfl rfl ?_
            exact hP _ _ (by omega) (by omega) hJ12
        · show t_X d 173 66 lv13 [] g12 P
          refine t_0 qbl_66 rfl rfl ?_
          refine t_1 qbl_67 rfl (pb_goto (pc := 67) (by decide)) ?_
          show t_X d 173 82 lv13 [oI (0)] g12 P
          refine t_5 qbl_82 rfl rfl ?_
          exact hP _ _ (by omega) (by omega) hJ12
      · show t_X d 173 40 lv [] g8 P
        refine t_1 qbl_40 rfl (pb_goto (pc := 40) (by decide)) ?_
        show t_X d 173 83 lv [] g8 P
        refine t_2 qbl_83 rfl (w := (px_s1 lv 3 (oI ((q : Int) + 1)), [])) (pq_inc l3 (by decide)) ?_
        replace l0 : px_lg (px_s1 lv 3 (oI ((q : Int) + 1))) 0 = some (pvR 196) := s1_ne (by decide) (fun _ => rfl) l0
        replace l1 : px_lg (px_s1 lv 3 (oI ((q : Int) + 1))) 1 = some (oI (a)) := s1_ne (by decide) (fun _ => rfl) l1
        replace l2 : px_lg (px_s1 lv 3 (oI ((q : Int) + 1))) 2 = some (oI (b)) := s1_ne (by decide) (fun _ => rfl) l2
        have l3 : px_lg (px_s1 lv 3 (oI ((q : Int) + 1))) 3 = some (oI ((q : Int) + 1)) := s1_eq
        generalize px_s1 lv 3 (oI ((q : Int) + 1)) = lv16 at l0 l1 l2 l3 ⊢
        show t_X d 173 86 lv16 [] g8 P
        refine t_1 qbl_86 rfl (pb_goto (pc := 86) (by decide)) ?_
        show t_X d 173 2 lv16 [] g8 P
        exact ih (q + 1) _ _ (by have := s_35 _ hJ8; omega) (by omega) hJ8 l0 l1 l2 l3
set_option maxHeartbeats 4000000 in
theorem bl_run {d W : Nat} (hd : 2 ≤ d) (w_a227 : W.testBit (cn 227) = true) (hDX : W &&& eDX = 0) {h0 g : pH} (hx0 : xL h0) {a b : Int} (ha : -2147483648 ≤ a ∧ a ≤ 2147483647) (hb : 0 ≤ b ∧ b ≤ 999) {P : Option pv × pH → Prop} (hP : ∀ (g : pH) (z : Int), 0 ≤ z → z ≤ b → J_ W h0 g → P (some (oI z), g)) {lv : List (Nat × pv)} (hJ : J_ W h0 g) (l0 : px_lg lv 0 = some (pvR 196)) (l1 : px_lg lv 1 = some (oI a)) (l2 : px_lg lv 2 = some (oI b)) : t_X d 173 0 lv [] g P := by
  refine t_0 qbl_0 rfl rfl ?_
  refine t_2 qbl_1 rfl (w := (px_s1 lv 3 (oI (0)), [])) rfl ?_
  replace l0 : px_lg (px_s1 lv 3 (oI (0))) 0 = some (pvR 196) := s1_ne (by decide) (fun _ => rfl) l0
  replace l1 : px_lg (px_s1 lv 3 (oI (0))) 1 = some (oI (a)) := s1_ne (by decide) (fun _ => rfl) l1
  replace l2 : px_lg (px_s1 lv 3 (oI (0))) 2 = some (oI (b)) := s1_ne (by decide) (fun _ => rfl) l2
  have l3 : px_lg (px_s1 lv 3 (oI (0))) 3 = some (oI (0)) := s1_eq
  generalize px_s1 lv 3 (oI (0)) = lv1 at l0 l1 l2 l3 ⊢
  show t_X d 173 2 lv1 [] g P
  exact bl_loop hd w_a227 hDX hx0 ha hb hP (fun g hg => fF_M hg.2 (dx_f hDX dx_t.1)) 16 0 _ _ (by have := gb_f hJ.1 (y := 35) rfl rfl gf_35; have := fF_M hJ.2 (dx_f hDX dx_t.1); omega) (by omega) hJ l0 l1 l2 l3
theorem kk187_w : kk_187.2.2.2.1.testBit (cn 227) = true := by decide +kernel
theorem kk187_x : kk_187.2.2.2.1 &&& eDX = 0 := by decide +kernel
theorem h_187 (d : Nat) : k_S eG xL kk_187 d := by
  intro vs h xs ys m hG hx hM _ _ _
  obtain ⟨hd4, hL, hF, -⟩ := hM
  have e9 := m_F_nil hF
  subst e9
  obtain ⟨x0, ys0, rfl, ⟨v0, a1, a2, a3, a4⟩, hL⟩ := m_L_cons hL
  obtain ⟨x1, ys1, rfl, ⟨v1, b1, b2, b3, b4⟩, hL⟩ := m_L_cons hL
  obtain ⟨x2, ys2, rfl, ⟨v2, c1, c2, c3, c4⟩, hL⟩ := m_L_cons hL
  have e9 := m_L_nil hL
  subst e9
  obtain ⟨q, rfl⟩ := ct_2 a2
  obtain ⟨n, rfl⟩ := ct_0 b2
  obtain ⟨k, rfl⟩ := ct_0 c2
  subst a3 b3 c3
  have eq := cv_r a4
  subst eq
  rw [oI_r n] at b1
  rw [oI_r k] at c1
  have hd5 : 8 ≤ d := hd4
  have hk : 0 ≤ k.toInt ∧ k.toInt ≤ 999 := ⟨c4.1, c4.2.1⟩
  refine bl_run (W := kk_187.2.2.2.1) (by omega) kk187_w kk187_x hx (i32_b n) hk (P := fun o => g_I eG o.2 ∧ xL o.2 ∧ f_M kk_187.2.2.2.1 h o.2 ∧ ∃ p ∈ kk_187.2.2.2.2, ∃ zs, m_P p ((d : Int) :: ([cv (.inr (.inr (some 196))), cv (.inl n), cv (.inl k)] ++ [])) o.1 o.2 zs) (fun g z h1 h2 hg => ⟨hg.1, xL_K _ _ _ hg.2 kk187_x hx, hg.2, _, List.mem_cons_self .., [z], ⟨oI z, z, [], rfl, ⟨rfl, oT (by omega) (by omega), h1, by show z ≤ 999; omega, Or.inl rfl⟩, rfl, trivial⟩, fun c hc => ?_⟩) ⟨hG, f_M_rf _ _⟩ a1 b1 c1
  have hc := List.mem_singleton.mp hc
  subst hc
  exact ⟨z - k.toInt, ⟨1 * z + (-1 * k.toInt + 0), rfl, by omega⟩, by omega⟩
end
section
/-! by hand: asks, laysHand, draws, putIn (printed in part by wip/e2/pu.py) -/
theorem qak_0 : xe_look (xc 169) 0 = some (.aload_n 0, 1, 0, 0, 0) := by decide +kernel
theorem qak_1 : xe_look (xc 169) 1 = some (.iload_n 1, 1, 0, 0, 0) := by decide +kernel
theorem qak_2 : xe_look (xc 169) 2 = some (.iload_n 2, 1, 0, 0, 0) := by decide +kernel
theorem qak_3 : xe_look (xc 169) 3 = some (.invokevirtual 375, 3, 0, 190, 1122) := by decide +kernel
theorem qak_6 : xe_look (xc 169) 6 = some (.aload_n 0, 1, 0, 0, 0) := by decide +kernel
theorem qak_7 : xe_look (xc 169) 7 = some (.iload_n 3, 1, 0, 0, 0) := by decide +kernel
theorem qak_8 : xe_look (xc 169) 8 = some (.iload 4, 2, 0, 0, 0) := by decide +kernel
theorem qak_10 : xe_look (xc 169) 10 = some (.invokevirtual 378, 3, 0, 173, 1123) := by decide +kernel
theorem qak_13 : xe_look (xc 169) 13 = some (.ireturn, 1, 0, 0, 0) := by decide +kernel
theorem qdr_0 : xe_look (xc 185) 0 = some (.aload_n 0, 1, 0, 0, 0) := by decide +kernel
theorem qdr_1 : xe_look (xc 185) 1 = some (.getfield 7, 3, 12, 2, 1133) := by decide +kernel
theorem qdr_4 : xe_look (xc 185) 4 = some (.bipush 41, 2, 0, 0, 0) := by decide +kernel
theorem qdr_6 : xe_look (xc 185) 6 = some (.sipush 25173, 3, 0, 0, 0) := by decide +kernel
theorem qdr_9 : xe_look (xc 185) 9 = some (.aload_n 0, 1, 0, 0, 0) := by decide +kernel
theorem qdr_10 : xe_look (xc 185) 10 = some (.getfield 7, 3, 12, 2, 1133) := by decide +kernel
theorem qdr_13 : xe_look (xc 185) 13 = some (.bipush 41, 2, 0, 0, 0) := by decide +kernel
theorem qdr_15 : xe_look (xc 185) 15 = some (.iaload, 1, 0, 0, 0) := by decide +kernel
theorem qdr_16 : xe_look (xc 185) 16 = some (.imul, 1, 0, 0, 0) := by decide +kernel
theorem qdr_17 : xe_look (xc 185) 17 = some (.sipush 13849, 3, 0, 0, 0) := by decide +kernel
theorem qdr_20 : xe_look (xc 185) 20 = some (.iadd, 1, 0, 0, 0) := by decide +kernel
theorem qdr_21 : xe_look (xc 185) 21 = some (.ldc_w 381, 3, 0, 2147549184, 1169) := by decide +kernel
theorem qdr_24 : xe_look (xc 185) 24 = some (.irem, 1, 0, 0, 0) := by decide +kernel
theorem qdr_25 : xe_look (xc 185) 25 = some (.iastore, 1, 0, 0, 0) := by decide +kernel
theorem qdr_26 : xe_look (xc 185) 26 = some (.aload_n 0, 1, 0, 0, 0) := by decide +kernel
theorem qdr_27 : xe_look (xc 185) 27 = some (.getfield 7, 3, 12, 2, 1133) := by decide +kernel
theorem qdr_30 : xe_look (xc 185) 30 = some (.bipush 41, 2, 0, 0, 0) := by decide +kernel
theorem qdr_32 : xe_look (xc 185) 32 = some (.iaload, 1, 0, 0, 0) := by decide +kernel
theorem qdr_33 : xe_look (xc 185) 33 = some (.bipush 10, 2, 0, 0, 0) := by decide +kernel
theorem qdr_35 : xe_look (xc 185) 35 = some (.irem, 1, 0, 0, 0) := by decide +kernel
theorem qdr_36 : xe_look (xc 185) 36 = some (.ireturn, 1, 0, 0, 0) := by decide +kernel
theorem qin_0 : xe_look (xc 199) 0 = some (.iload_n 0, 1, 0, 0, 0) := by decide +kernel
theorem qin_1 : xe_look (xc 199) 1 = some (.iload_n 1, 1, 0, 0, 0) := by decide +kernel
theorem qin_2 : xe_look (xc 199) 2 = some (.if_icmp .lt 12, 3, 0, 0, 0) := by decide +kernel
theorem qin_5 : xe_look (xc 199) 5 = some (.iload_n 0, 1, 0, 0, 0) := by decide +kernel
theorem qin_6 : xe_look (xc 199) 6 = some (.iload_n 2, 1, 0, 0, 0) := by decide +kernel
theorem qin_7 : xe_look (xc 199) 7 = some (.if_icmp .gt 7, 3, 0, 0, 0) := by decide +kernel
theorem qin_10 : xe_look (xc 199) 10 = some (.iconst 1, 1, 0, 0, 0) := by decide +kernel
theorem qin_11 : xe_look (xc 199) 11 = some (.goto 4, 3, 0, 0, 0) := by decide +kernel
theorem qin_14 : xe_look (xc 199) 14 = some (.iconst 0, 1, 0, 0, 0) := by decide +kernel
theorem qin_15 : xe_look (xc 199) 15 = some (.ireturn, 1, 0, 0, 0) := by decide +kernel
theorem qlh_0 : xe_look (xc 214) 0 = some (.iconst 0, 1, 0, 0, 0) := by decide +kernel
theorem qlh_1 : xe_look (xc 214) 1 = some (.istore_n 2, 1, 0, 0, 0) := by decide +kernel
theorem qlh_2 : xe_look (xc 214) 2 = some (.iconst 0, 1, 0, 0, 0) := by decide +kernel
theorem qlh_3 : xe_look (xc 214) 3 = some (.istore_n 3, 1, 0, 0, 0) := by decide +kernel
theorem qlh_4 : xe_look (xc 214) 4 = some (.iload_n 3, 1, 0, 0, 0) := by decide +kernel
theorem qlh_5 : xe_look (xc 214) 5 = some (.bipush 8, 2, 0, 0, 0) := by decide +kernel
theorem qlh_7 : xe_look (xc 214) 7 = some (.if_icmp .ge 34, 3, 0, 0, 0) := by decide +kernel
theorem qlh_10 : xe_look (xc 214) 10 = some (.aload_n 0, 1, 0, 0, 0) := by decide +kernel
theorem qlh_11 : xe_look (xc 214) 11 = some (.getfield 107, 3, 12, 55, 1187) := by decide +kernel
theorem qlh_14 : xe_look (xc 214) 14 = some (.iload_n 3, 1, 0, 0, 0) := by decide +kernel
theorem qlh_15 : xe_look (xc 214) 15 = some (.aload_n 0, 1, 0, 0, 0) := by decide +kernel
theorem qlh_16 : xe_look (xc 214) 16 = some (.iload_n 1, 1, 0, 0, 0) := by decide +kernel
theorem qlh_17 : xe_look (xc 214) 17 = some (.iload_n 3, 1, 0, 0, 0) := by decide +kernel
theorem qlh_18 : xe_look (xc 214) 18 = some (.bipush 119, 2, 0, 0, 0) := by decide +kernel
theorem qlh_20 : xe_look (xc 214) 20 = some (.bipush 99, 2, 0, 0, 0) := by decide +kernel
theorem qlh_22 : xe_look (xc 214) 22 = some (.invokevirtual 391, 3, 0, 169, 1234) := by decide +kernel
theorem qlh_25 : xe_look (xc 214) 25 = some (.iastore, 1, 0, 0, 0) := by decide +kernel
theorem qlh_26 : xe_look (xc 214) 26 = some (.iload_n 2, 1, 0, 0, 0) := by decide +kernel
theorem qlh_27 : xe_look (xc 214) 27 = some (.aload_n 0, 1, 0, 0, 0) := by decide +kernel
theorem qlh_28 : xe_look (xc 214) 28 = some (.getfield 107, 3, 12, 55, 1187) := by decide +kernel
theorem qlh_31 : xe_look (xc 214) 31 = some (.iload_n 3, 1, 0, 0, 0) := by decide +kernel
theorem qlh_32 : xe_look (xc 214) 32 = some (.iaload, 1, 0, 0, 0) := by decide +kernel
theorem qlh_33 : xe_look (xc 214) 33 = some (.iadd, 1, 0, 0, 0) := by decide +kernel
theorem qlh_34 : xe_look (xc 214) 34 = some (.istore_n 2, 1, 0, 0, 0) := by decide +kernel
theorem qlh_35 : xe_look (xc 214) 35 = some (.iinc 3 1, 3, 0, 0, 0) := by decide +kernel
theorem qlh_38 : xe_look (xc 214) 38 = some (.goto (-34), 3, 0, 0, 0) := by decide +kernel
theorem qlh_41 : xe_look (xc 214) 41 = some (.iload_n 2, 1, 0, 0, 0) := by decide +kernel
theorem qlh_42 : xe_look (xc 214) 42 = some (.ireturn, 1, 0, 0, 0) := by decide +kernel
theorem qpi_0 : xe_look (xc 232) 0 = some (.iconst 0, 1, 0, 0, 0) := by decide +kernel
theorem qpi_1 : xe_look (xc 232) 1 = some (.istore_n 1, 1, 0, 0, 0) := by decide +kernel
theorem qpi_2 : xe_look (xc 232) 2 = some (.iload_n 1, 1, 0, 0, 0) := by decide +kernel
theorem qpi_3 : xe_look (xc 232) 3 = some (.bipush 32, 2, 0, 0, 0) := by decide +kernel
theorem qpi_5 : xe_look (xc 232) 5 = some (.if_icmp .ge 91, 3, 0, 0, 0) := by decide +kernel
theorem qpi_8 : xe_look (xc 232) 8 = some (.aload_n 0, 1, 0, 0, 0) := by decide +kernel
theorem qpi_9 : xe_look (xc 232) 9 = some (.iload_n 1, 1, 0, 0, 0) := by decide +kernel
theorem qpi_10 : xe_look (xc 232) 10 = some (.invokevirtual 205, 3, 0, 205, 1130) := by decide +kernel
theorem qpi_13 : xe_look (xc 232) 13 = some (.ifCond .ne 6, 3, 0, 0, 0) := by decide +kernel
theorem qpi_16 : xe_look (xc 232) 16 = some (.goto 74, 3, 0, 0, 0) := by decide +kernel
theorem qpi_19 : xe_look (xc 232) 19 = some (.aload_n 0, 1, 0, 0, 0) := by decide +kernel
theorem qpi_20 : xe_look (xc 232) 20 = some (.invokevirtual 385, 3, 0, 185, 1253) := by decide +kernel
theorem qpi_23 : xe_look (xc 232) 23 = some (.pop, 1, 0, 0, 0) := by decide +kernel
theorem qpi_24 : xe_look (xc 232) 24 = some (.aload_n 0, 1, 0, 0, 0) := by decide +kernel
theorem qpi_25 : xe_look (xc 232) 25 = some (.iload_n 1, 1, 0, 0, 0) := by decide +kernel
theorem qpi_26 : xe_look (xc 232) 26 = some (.invokevirtual 434, 3, 0, 214, 1186) := by decide +kernel
theorem qpi_29 : xe_look (xc 232) 29 = some (.istore_n 2, 1, 0, 0, 0) := by decide +kernel
theorem qpi_30 : xe_look (xc 232) 30 = some (.iload_n 2, 1, 0, 0, 0) := by decide +kernel
theorem qpi_31 : xe_look (xc 232) 31 = some (.ifCond .ne 6, 3, 0, 0, 0) := by decide +kernel
theorem qpi_34 : xe_look (xc 232) 34 = some (.goto 56, 3, 0, 0, 0) := by decide +kernel
theorem qpi_37 : xe_look (xc 232) 37 = some (.aload_n 0, 1, 0, 0, 0) := by decide +kernel
theorem qpi_38 : xe_look (xc 232) 38 = some (.getfield 7, 3, 12, 2, 1133) := by decide +kernel
theorem qpi_41 : xe_look (xc 232) 41 = some (.bipush 41, 2, 0, 0, 0) := by decide +kernel
theorem qpi_43 : xe_look (xc 232) 43 = some (.iaload, 1, 0, 0, 0) := by decide +kernel
theorem qpi_44 : xe_look (xc 232) 44 = some (.iload_n 2, 1, 0, 0, 0) := by decide +kernel
theorem qpi_45 : xe_look (xc 232) 45 = some (.irem, 1, 0, 0, 0) := by decide +kernel
theorem qpi_46 : xe_look (xc 232) 46 = some (.istore_n 3, 1, 0, 0, 0) := by decide +kernel
theorem qpi_47 : xe_look (xc 232) 47 = some (.iconst 0, 1, 0, 0, 0) := by decide +kernel
theorem qpi_48 : xe_look (xc 232) 48 = some (.istore 4, 2, 0, 0, 0) := by decide +kernel
theorem qpi_50 : xe_look (xc 232) 50 = some (.iload_n 3, 1, 0, 0, 0) := by decide +kernel
theorem qpi_51 : xe_look (xc 232) 51 = some (.aload_n 0, 1, 0, 0, 0) := by decide +kernel
theorem qpi_52 : xe_look (xc 232) 52 = some (.getfield 107, 3, 12, 55, 1187) := by decide +kernel
theorem qpi_55 : xe_look (xc 232) 55 = some (.iload 4, 2, 0, 0, 0) := by decide +kernel
theorem qpi_57 : xe_look (xc 232) 57 = some (.iaload, 1, 0, 0, 0) := by decide +kernel
theorem qpi_58 : xe_look (xc 232) 58 = some (.if_icmp .lt 22, 3, 0, 0, 0) := by decide +kernel
theorem qpi_61 : xe_look (xc 232) 61 = some (.iload_n 3, 1, 0, 0, 0) := by decide +kernel
theorem qpi_62 : xe_look (xc 232) 62 = some (.aload_n 0, 1, 0, 0, 0) := by decide +kernel
theorem qpi_63 : xe_look (xc 232) 63 = some (.getfield 107, 3, 12, 55, 1187) := by decide +kernel
theorem qpi_66 : xe_look (xc 232) 66 = some (.iload 4, 2, 0, 0, 0) := by decide +kernel
theorem qpi_68 : xe_look (xc 232) 68 = some (.iaload, 1, 0, 0, 0) := by decide +kernel
theorem qpi_69 : xe_look (xc 232) 69 = some (.isub, 1, 0, 0, 0) := by decide +kernel
theorem qpi_70 : xe_look (xc 232) 70 = some (.istore_n 3, 1, 0, 0, 0) := by decide +kernel
theorem qpi_71 : xe_look (xc 232) 71 = some (.iload 4, 2, 0, 0, 0) := by decide +kernel
theorem qpi_73 : xe_look (xc 232) 73 = some (.iconst 1, 1, 0, 0, 0) := by decide +kernel
theorem qpi_74 : xe_look (xc 232) 74 = some (.iadd, 1, 0, 0, 0) := by decide +kernel
theorem qpi_75 : xe_look (xc 232) 75 = some (.istore 4, 2, 0, 0, 0) := by decide +kernel
theorem qpi_77 : xe_look (xc 232) 77 = some (.goto (-27), 3, 0, 0, 0) := by decide +kernel
theorem qpi_80 : xe_look (xc 232) 80 = some (.aload_n 0, 1, 0, 0, 0) := by decide +kernel
theorem qpi_81 : xe_look (xc 232) 81 = some (.getfield 7, 3, 12, 2, 1133) := by decide +kernel
theorem qpi_84 : xe_look (xc 232) 84 = some (.iconst 0, 1, 0, 0, 0) := by decide +kernel
theorem qpi_85 : xe_look (xc 232) 85 = some (.iload_n 1, 1, 0, 0, 0) := by decide +kernel
theorem qpi_86 : xe_look (xc 232) 86 = some (.iadd, 1, 0, 0, 0) := by decide +kernel
theorem qpi_87 : xe_look (xc 232) 87 = some (.iload 4, 2, 0, 0, 0) := by decide +kernel
theorem qpi_89 : xe_look (xc 232) 89 = some (.iastore, 1, 0, 0, 0) := by decide +kernel
theorem qpi_90 : xe_look (xc 232) 90 = some (.iinc 1 1, 3, 0, 0, 0) := by decide +kernel
theorem qpi_93 : xe_look (xc 232) 93 = some (.goto (-91), 3, 0, 0, 0) := by decide +kernel
theorem qpi_96 : xe_look (xc 232) 96 = some (.aload_n 0, 1, 0, 0, 0) := by decide +kernel
theorem qpi_97 : xe_look (xc 232) 97 = some (.invokevirtual 424, 3, 0, 275, 1163) := by decide +kernel
theorem qpi_100 : xe_look (xc 232) 100 = some (.ireturn, 1, 0, 0, 0) := by decide +kernel
theorem ga_197 : eG (cn 197) = ((-2147483648), 2147483647, []) := by decide +kernel
theorem ga_229 : eG (cn 229) = (0, 99, []) := by decide +kernel
theorem in_run {d : Nat} {g : pH} {lv : List (Nat × pv)} {a b c : Int} {P : Option pv × pH → Prop} (ha : -2147483648 ≤ a ∧ a ≤ 2147483647) (hb : -2147483648 ≤ b ∧ b ≤ 2147483647) (hc : -2147483648 ≤ c ∧ c ≤ 2147483647) (l0 : px_lg lv 0 = some (oI a)) (l1 : px_lg lv 1 = some (oI b)) (l2 : px_lg lv 2 = some (oI c)) (h1 : b ≤ a ∧ a ≤ c → P (some (oI 1), g)) (h0 : a < b ∨ c < a → P (some (oI 0), g)) : t_X d 199 0 lv [] g P := by
  refine t_0 qin_0 rfl (ld_i l0) ?_
  refine t_0 qin_1 rfl (ld_i l1) ?_
  refine tb_lt qin_2 (by decide) ⟨by omega, by omega⟩ ⟨by omega, by omega⟩ (fun c1 => ?_) (fun c1 => ?_)
  · show t_X d 199 14 lv [] g P
    refine t_0 qin_14 rfl rfl ?_
    refine t_5 qin_15 rfl rfl ?_
    exact h0 (by omega)
  · show t_X d 199 5 lv [] g P
    refine t_0 qin_5 rfl (ld_i l0) ?_
    refine t_0 qin_6 rfl (ld_i l2) ?_
    refine tb_gt qin_7 (by decide) ⟨by omega, by omega⟩ ⟨by omega, by omega⟩ (fun c2 => ?_) (fun c2 => ?_)
    · show t_X d 199 14 lv [] g P
      refine t_0 qin_14 rfl rfl ?_
      refine t_5 qin_15 rfl rfl ?_
      exact h0 (by omega)
    · show t_X d 199 10 lv [] g P
      refine t_0 qin_10 rfl rfl ?_
      refine t_1 qin_11 rfl (pb_goto (pc := 11) (by decide)) ?_
      show t_X d 199 15 lv [oI (1)] g P
      refine t_5 qin_15 rfl rfl ?_
      exact h1 (by omega)
theorem kt_L (d : Nat) : ∀ y, ∀ k ∈ eKT y, k_S eG xL k d := kt_ok (fun d _ => h_182 d) (fun d _ => h_183 d) (fun d _ => h_184 d) (fun d _ => h_185 xL_K d) (fun d hK => h_186 xL_K d hK) (fun d _ => h_187 d) xL_K d
theorem J_rf {W : Nat} {g : pH} (hG : g_I eG g) : J_ W g g := ⟨hG, f_M_rf _ _⟩
theorem J_up {W V : Nat} {h0 g g1 : pH} (hV : V &&& W = V) (a : J_ W h0 g) (b : J_ V g g1) : J_ W h0 g1 := ⟨b.1, f_M_tr hV a.2 b.2⟩
def Wa : Nat := 2 ^ cn 227 + 2 ^ cn 228
theorem Wa_1 : Wa.testBit (cn 227) = true ∧ Wa.testBit (cn 228) = true ∧ Wa &&& eDX = 0 ∧ Wa.testBit (cn 229) = false ∧ Wa.testBit (cn 197) = false := by decide +kernel
theorem nI_o (i : Nat) : nI i = Int32.ofInt (i : Int) := by
  show Int32.ofNat i = _
  exact (Int32.ofInt_eq_ofNat).symm
set_option maxHeartbeats 4000000 in
theorem ak_run {d : Nat} (hd : 4 ≤ d) {g : pH} (hG : g_I eG g) (hx : xL g) {i : Nat} (hi : i < 32) {n a b : Int} (ha : -2147483648 ≤ a ∧ a ≤ 2147483647) (hb : 0 ≤ b ∧ b ≤ 999) {P : Option pv × pH → Prop} (hP : ∀ (g1 : pH) (z : Int), 0 ≤ z → z ≤ b → J_ Wa g g1 → P (some (oI z), g1)) {lv : List (Nat × pv)} (l0 : px_lg lv 0 = some (pvR 196)) (l1 : px_lg lv 1 = some (oI (i : Int))) (l2 : px_lg lv 2 = some (oI n)) (l3 : px_lg lv 3 = some (oI a)) (l4 : px_lg lv 4 = some (oI b)) : t_X d 169 0 lv [] g P := by
  refine t_0 qak_0 rfl (ld_a l0) ?_
  refine t_0 qak_1 rfl (ld_i l1) ?_
  refine t_0 qak_2 rfl (ld_i l2) ?_
  refine t_3 qak_3 rfl (ar := ([pvR 196, oI ((i : Int)), oI (n)], [])) (pcal_v2 rfl rfl el_196) ⟨by omega, Nat.le_of_ble_eq_true rfl, Nat.le_of_ble_eq_true rfl, rfl⟩ ?_
  refine feels_run hi Wa_1.2.1 (J_rf hG) rfl (by rw [nI_o]; rfl) rfl (fun g1 hJ1 => ?_)
  show t_X d 169 6 lv [] g1 P
  refine t_0 qak_6 rfl (ld_a l0) ?_
  refine t_0 qak_7 rfl (ld_i l3) ?_
  refine t_0 qak_8 rfl (ld_i l4) ?_
  refine t_3 qak_10 rfl (ar := ([pvR 196, oI (a), oI (b)], [])) (pcal_v2 rfl rfl el_196) ⟨by omega, Nat.le_of_ble_eq_true rfl, Nat.le_of_ble_eq_true rfl, rfl⟩ ?_
  refine bl_run (by omega) Wa_1.1 Wa_1.2.2.1 hx ha hb (fun g2 z2 y2 x2 hJ2 => ?_) hJ1 rfl rfl rfl
  show t_X d 169 13 lv [oI (z2)] g2 P
  refine t_5 qak_13 rfl rfl ?_
  exact hP _ _ y2 x2 hJ2
def sm (f : Nat → Int) : Nat → Int
  | 0 => 0
  | n + 1 => sm f n + f n
theorem sm_e {f f2 : Nat → Int} : ∀ {n : Nat}, (∀ k, k < n → f k = f2 k) → sm f n = sm f2 n
  | 0, _ => rfl
  | n + 1, h => by
    show sm f n + f n = sm f2 n + f2 n
    rw [sm_e (n := n) (fun k hk => h k (by omega)), h n (by omega)]
theorem sm_b {f : Nat → Int} : ∀ {n : Nat}, (∀ k, k < n → 0 ≤ f k ∧ f k ≤ 99) → 0 ≤ sm f n ∧ sm f n ≤ 99 * n
  | 0, _ => ⟨Int.le_refl 0, Int.le_refl 0⟩
  | n + 1, h => by
    have h1 := sm_b (n := n) (fun k hk => h k (by omega))
    have h2 := h n (by omega)
    show 0 ≤ sm f n + f n ∧ sm f n + f n ≤ 99 * ((n + 1 : Nat) : Int)
    omega
def Wl : Nat := Wa + 2 ^ cn 229
theorem Wl_1 : Wl.testBit (cn 229) = true ∧ Wl &&& eDX = 0 ∧ Wa &&& Wl = Wa ∧ Wl.testBit (cn 197) = false := by decide +kernel
set_option maxHeartbeats 4000000 in
theorem lh_loop {d : Nat} (hd : 5 ≤ d) {h0 : pH} (hx : xL h0) {i : Nat} (hi : i < 32) {P : Option pv × pH → Prop} (hP : ∀ g : pH, J_ Wl h0 g → P (some (oI (sm (fA g 229) 8)), g)) : ∀ (m w : Nat) (g : pH) (lv : List (Nat × pv)), w + m = 8 → J_ Wl h0 g → px_lg lv 0 = some (pvR 196) → px_lg lv 1 = some (oI (i : Int)) → px_lg lv 2 = some (oI (sm (fA g 229) w)) → px_lg lv 3 = some (oI (w : Int)) → t_X d 214 4 lv [] g P := by
  intro m
  induction m with
  | zero =>
    intro w g lv hm hJ l0 l1 l2 l3
    obtain rfl : w = 8 := by omega
    replace l3 : px_lg lv 3 = some (oI 8) := l3
    refine t_0 qlh_4 rfl (ld_i l3) ?_
    refine t_0 qlh_5 rfl (pq_b (by decide)) ?_
    refine tb_ge qlh_7 (by decide) ⟨by omega, by omega⟩ ⟨by omega, by omega⟩ (fun c1 => ?_) (fun c1 => absurd c1 (by omega))
    show t_X d 214 41 lv [] g P
    refine t_0 qlh_41 rfl (ld_i l2) ?_
    refine t_5 qlh_42 rfl rfl ?_
    exact hP _ hJ
  | succ m ih =>
    intro w g lv hm hJ l0 l1 l2 l3
    have w_a229 := Wl_1.1
    refine t_0 qlh_4 rfl (ld_i l3) ?_
    refine t_0 qlh_5 rfl (pq_b (by decide)) ?_
    refine tb_ge qlh_7 (by decide) ⟨by omega, by omega⟩ ⟨by omega, by omega⟩ (fun c1 => absurd c1 (by omega)) (fun c1 => ?_)
    show t_X d 214 10 lv [] g P
    refine t_0 qlh_10 rfl (ld_a l0) ?_
    refine t_0 qlh_11 rfl (ar_55 hJ.1) ?_
    refine t_0 qlh_14 rfl (ld_i l3) ?_
    refine t_0 qlh_15 rfl (ld_a l0) ?_
    refine t_0 qlh_16 rfl (ld_i l1) ?_
    refine t_0 qlh_17 rfl (ld_i l3) ?_
    refine t_0 qlh_18 rfl (pq_b (by decide)) ?_
    refine t_0 qlh_20 rfl (pq_b (by decide)) ?_
    refine t_3 qlh_22 rfl (ar := ([pvR 196, oI ((i : Int)), oI ((w : Int)), oI (119), oI (99)], [oI ((w : Int)), pvR 229])) (pcal_v4 rfl rfl el_196) ⟨by omega, Nat.le_of_ble_eq_true rfl, Nat.le_of_ble_eq_true rfl, rfl⟩ ?_
    refine ak_run (by omega) hJ.1 (xL_K _ _ _ hJ.2 Wl_1.2.1 hx) hi (by decide) (by decide) (fun g2 z2 y2 x2 hA2 => ?_) rfl rfl rfl rfl rfl
    have hJ2 := J_up Wl_1.2.2.1 hJ hA2
    have e2 := fA_M hA2.2 Wa_1.2.2.2.1
    show t_X d 214 25 lv [oI (z2), oI ((w : Int)), pvR 229] g2 P
    refine tw_a qlh_25 hJ2 el_229 rfl w_a229 ga_229 (by decide) ⟨by omega, by omega⟩ ⟨by omega, by omega⟩ (fun g3 hJ3 a3 v3 b3 f3 => ?_)
    replace f3 := fF_1 f3
    show t_X d 214 26 lv [] g3 P
    refine t_0 qlh_26 rfl (ld_i l2) ?_
    refine t_0 qlh_27 rfl (ld_a l0) ?_
    refine t_0 qlh_28 rfl (ar_55 hJ3.1) ?_
    refine t_0 qlh_31 rfl (ld_i l3) ?_
    refine t_0 qlh_32 rfl (pq_ia el_229 rfl ⟨by omega, by omega⟩) ?_
    have r4 := gb_a hJ3.1 el_229 (j := (w : Int).toNat) (by omega) ga_229
    refine t_0 qlh_33 rfl pq_add ?_
    refine t_2 qlh_34 rfl (w := (px_s1 lv 2 (oI ((sm (fA g 229) w) + (fA g3 229 (w : Int).toNat))), [])) rfl ?_
    replace l0 : px_lg (px_s1 lv 2 (oI ((sm (fA g 229) w) + (fA g3 229 (w : Int).toNat)))) 0 = some (pvR 196) := s1_ne (by decide) (fun _ => rfl) l0
    replace l1 : px_lg (px_s1 lv 2 (oI ((sm (fA g 229) w) + (fA g3 229 (w : Int).toNat)))) 1 = some (oI ((i : Int))) := s1_ne (by decide) (fun _ => rfl) l1
    replace l3 : px_lg (px_s1 lv 2 (oI ((sm (fA g 229) w) + (fA g3 229 (w : Int).toNat)))) 3 = some (oI ((w : Int))) := s1_ne (by decide) (fun _ => rfl) l3
    have l2 : px_lg (px_s1 lv 2 (oI ((sm (fA g 229) w) + (fA g3 229 (w : Int).toNat)))) 2 = some (oI ((sm (fA g 229) w) + (fA g3 229 (w : Int).toNat))) := s1_eq
    generalize px_s1 lv 2 (oI ((sm (fA g 229) w) + (fA g3 229 (w : Int).toNat))) = lv5 at l0 l1 l3 l2 ⊢
    show t_X d 214 35 lv5 [] g3 P
    refine t_2 qlh_35 rfl (w := (px_s1 lv5 3 (oI ((w : Int) + 1)), [])) (pq_inc l3 (by decide)) ?_
    replace l0 : px_lg (px_s1 lv5 3 (oI ((w : Int) + 1))) 0 = some (pvR 196) := s1_ne (by decide) (fun _ => rfl) l0
    replace l1 : px_lg (px_s1 lv5 3 (oI ((w : Int) + 1))) 1 = some (oI ((i : Int))) := s1_ne (by decide) (fun _ => rfl) l1
    replace l2 : px_lg (px_s1 lv5 3 (oI ((w : Int) + 1))) 2 = some (oI ((sm (fA g 229) w) + (fA g3 229 (w : Int).toNat))) := s1_ne (by decide) (fun _ => rfl) l2
    have l3 : px_lg (px_s1 lv5 3 (oI ((w : Int) + 1))) 3 = some (oI ((w : Int) + 1)) := s1_eq
    generalize px_s1 lv5 3 (oI ((w : Int) + 1)) = lv6 at l0 l1 l2 l3 ⊢
    show t_X d 214 38 lv6 [] g3 P
    refine t_1 qlh_38 rfl (pb_goto (pc := 38) (by decide)) ?_
    show t_X d 214 4 lv6 [] g3 P
    have es : sm (fA g3 229) (w + 1) = sm (fA g 229) w + z2 := by
      show sm (fA g3 229) w + fA g3 229 w = _
      rw [sm_e (f2 := fA g 229) (fun k hk => by rw [b3 k (by show k ≠ w; omega), e2])]
      have : fA g3 229 w = z2 := v3
      rw [this]
    refine ih (w + 1) _ _ (by omega) hJ3 l0 l1 ?_ l3
    rw [l2, es, v3]
theorem lh_run {d : Nat} (hd : 5 ≤ d) {g : pH} (hG : g_I eG g) (hx : xL g) {i : Nat} (hi : i < 32) {P : Option pv × pH → Prop} (hP : ∀ g1 : pH, J_ Wl g g1 → P (some (oI (sm (fA g1 229) 8)), g1)) {lv : List (Nat × pv)} (l0 : px_lg lv 0 = some (pvR 196)) (l1 : px_lg lv 1 = some (oI (i : Int))) : t_X d 214 0 lv [] g P := by
  refine t_0 qlh_0 rfl rfl ?_
  refine t_2 qlh_1 rfl (w := (px_s1 lv 2 (oI (0)), [])) rfl ?_
  replace l0 : px_lg (px_s1 lv 2 (oI (0))) 0 = some (pvR 196) := s1_ne (by decide) (fun _ => rfl) l0
  replace l1 : px_lg (px_s1 lv 2 (oI (0))) 1 = some (oI ((i : Int))) := s1_ne (by decide) (fun _ => rfl) l1
  have l2 : px_lg (px_s1 lv 2 (oI (0))) 2 = some (oI (0)) := s1_eq
  generalize px_s1 lv 2 (oI (0)) = lv1 at l0 l1 l2 ⊢
  show t_X d 214 2 lv1 [] g P
  refine t_0 qlh_2 rfl rfl ?_
  refine t_2 qlh_3 rfl (w := (px_s1 lv1 3 (oI (0)), [])) rfl ?_
  replace l0 : px_lg (px_s1 lv1 3 (oI (0))) 0 = some (pvR 196) := s1_ne (by decide) (fun _ => rfl) l0
  replace l1 : px_lg (px_s1 lv1 3 (oI (0))) 1 = some (oI ((i : Int))) := s1_ne (by decide) (fun _ => rfl) l1
  replace l2 : px_lg (px_s1 lv1 3 (oI (0))) 2 = some (oI (0)) := s1_ne (by decide) (fun _ => rfl) l2
  have l3 : px_lg (px_s1 lv1 3 (oI (0))) 3 = some (oI (0)) := s1_eq
  generalize px_s1 lv1 3 (oI (0)) = lv2 at l0 l1 l2 l3 ⊢
  show t_X d 214 4 lv2 [] g P
  exact lh_loop hd hx hi hP 8 0 _ _ rfl (J_rf hG) l0 l1 l2 l3
theorem dr_run {d W : Nat} {h0 g : pH} (w_a197 : W.testBit (cn 197) = true) (hJ : J_ W h0 g) {P : Option pv × pH → Prop} (hP : ∀ (g1 : pH) (z : Int32), J_ W h0 g1 → P (some (.inl z), g1)) {lv : List (Nat × pv)} (l0 : px_lg lv 0 = some (pvR 196)) : t_X d 185 0 lv [] g P := by
  refine t_0 qdr_0 rfl (ld_a l0) ?_
  refine t_0 qdr_1 rfl (ar_2 hJ.1) ?_
  refine t_0 qdr_4 rfl (pq_b (by decide)) ?_
  refine t_0 qdr_6 rfl (pq_s (by decide)) ?_
  refine t_0 qdr_9 rfl (ld_a l0) ?_
  refine t_0 qdr_10 rfl (ar_2 hJ.1) ?_
  refine t_0 qdr_13 rfl (pq_b (by decide)) ?_
  refine t_0 qdr_15 rfl (pq_ia el_197 rfl ⟨by omega, by omega⟩) ?_
  show t_X d 185 16 lv [oI (fA g 197 41), oI (25173), oI (41), pvR 197] g P
  have r1 := fA_b g 197 41
  refine t_0 qdr_16 rfl pq_mul ?_
  refine t_0 qdr_17 rfl (pq_s (by decide)) ?_
  refine t_0 qdr_20 rfl pq_add ?_
  refine t_0 qdr_21 rfl (pq_cw (n := 65536) (by decide +kernel)) ?_
  obtain ⟨c2, hc2⟩ := pq_rx (d := d) (x := 0) (y := 0) (lv := lv) (h := g) (r := [oI (41), pvR 197]) (a := (25173 * (fA g 197 41)) + 13849) (b := 65536) ⟨by omega, by omega⟩ (by omega)
  refine t_0 qdr_24 rfl hc2 ?_
  refine tw_ax qdr_25 hJ el_197 rfl w_a197 ga_197 ⟨by omega, by omega⟩ (fun g3 hJ3 a3 f3 => ?_)
  replace f3 := fF_1 f3
  show t_X d 185 26 lv [] g3 P
  refine t_0 qdr_26 rfl (ld_a l0) ?_
  refine t_0 qdr_27 rfl (ar_2 hJ3.1) ?_
  refine t_0 qdr_30 rfl (pq_b (by decide)) ?_
  refine t_0 qdr_32 rfl (pq_ia el_197 rfl ⟨by omega, by omega⟩) ?_
  show t_X d 185 33 lv [oI (fA g3 197 41)] g3 P
  have r4 := fA_b g3 197 41
  refine t_0 qdr_33 rfl (pq_b (by decide)) ?_
  obtain ⟨c5, hc5⟩ := pq_rx (d := d) (x := 0) (y := 0) (lv := lv) (h := g3) (r := []) (a := fA g3 197 41) (b := 10) ⟨by omega, by omega⟩ (by omega)
  refine t_0 qdr_35 rfl hc5 ?_
  refine t_5 qdr_36 rfl rfl ?_
  exact hP _ _ hJ3
def Wp : Nat := Wl + 2 ^ cn 197
theorem Wp_1 : Wp.testBit (cn 197) = true ∧ Wp.testBit (cn 229) = true ∧ Wp &&& eDX = 0 ∧ Wl &&& Wp = Wl := by decide +kernel
theorem in_87 : kk_87 ∈ eKT 275 := List.mem_singleton.mpr rfl
set_option maxHeartbeats 4000000 in
theorem pi_find {d : Nat} {h0 : pH} (w_a197 : Wp.testBit (cn 197) = true) {i : Nat} (hi : i < 32) {P : Option pv × pH → Prop} (hP : ∀ (g : pH) (lv : List (Nat × pv)), J_ Wp h0 g → px_lg lv 0 = some (pvR 196) → px_lg lv 1 = some (oI (((i + 1 : Nat)) : Int)) → t_X d 232 2 lv [] g P) {g : pH} : ∀ (m : Nat) (e : Int) (w : Nat) (lv : List (Nat × pv)), w + m = 8 → e + sm (fA g 229) w < sm (fA g 229) 8 → -2147483648 ≤ e ∧ e ≤ 2147483647 ∧ (w = 0 ∨ 0 ≤ e) → J_ Wp h0 g → px_lg lv 0 = some (pvR 196) → px_lg lv 1 = some (oI (i : Int)) → px_lg lv 3 = some (oI e) → px_lg lv 4 = some (oI (w : Int)) → t_X d 232 50 lv [] g P := by
  intro m
  induction m with
  | zero =>
    intro e w lv hm hs he hJ l0 l1 l3 l4
    obtain rfl : w = 8 := by omega
    omega
  | succ m ih =>
    intro e w lv hm hs he hJ l0 l1 l3 l4
    have hb := gb_a hJ.1 el_229 (j := w) (by omega) ga_229
    refine t_0 qpi_50 rfl (ld_i l3) ?_
    refine t_0 qpi_51 rfl (ld_a l0) ?_
    refine t_0 qpi_52 rfl (ar_55 hJ.1) ?_
    refine t_0 qpi_55 rfl (ld_i l4) ?_
    refine t_0 qpi_57 rfl (pq_ia el_229 rfl ⟨by omega, by omega⟩) ?_
    show t_X d 232 58 lv [oI (fA g 229 w), oI (e)] g P
    have r1 := gb_a hJ.1 el_229 (j := w) (by omega) ga_229
    refine tb_lt qpi_58 (by decide) ⟨by omega, by omega⟩ ⟨by omega, by omega⟩ (fun c2 => ?_) (fun c2 => ?_)
    · show t_X d 232 80 lv [] g P
      refine t_0 qpi_80 rfl (ld_a l0) ?_
      refine t_0 qpi_81 rfl (ar_2 hJ.1) ?_
      refine t_0 qpi_84 rfl rfl ?_
      refine t_0 qpi_85 rfl (ld_i l1) ?_
      refine t_0 qpi_86 rfl pq_add ?_
      refine t_0 qpi_87 rfl (ld_i l4) ?_
      refine tw_a qpi_89 hJ el_197 rfl w_a197 ga_197 (by decide) ⟨by omega, by omega⟩ ⟨by omega, by omega⟩ (fun g3 hJ3 a3 v3 b3 f3 => ?_)
      replace f3 := fF_1 f3
      show t_X d 232 90 lv [] g3 P
      refine t_2 qpi_90 rfl (w := (px_s1 lv 1 (oI ((i : Int) + 1)), [])) (pq_inc l1 (by decide)) ?_
      replace l0 : px_lg (px_s1 lv 1 (oI ((i : Int) + 1))) 0 = some (pvR 196) := s1_ne (by decide) (fun _ => rfl) l0
      replace l3 : px_lg (px_s1 lv 1 (oI ((i : Int) + 1))) 3 = some (oI (e)) := s1_ne (by decide) (fun _ => rfl) l3
      replace l4 : px_lg (px_s1 lv 1 (oI ((i : Int) + 1))) 4 = some (oI ((w : Int))) := s1_ne (by decide) (fun _ => rfl) l4
      have l1 : px_lg (px_s1 lv 1 (oI ((i : Int) + 1))) 1 = some (oI ((i : Int) + 1)) := s1_eq
      generalize px_s1 lv 1 (oI ((i : Int) + 1)) = lv4 at l0 l3 l4 l1 ⊢
      show t_X d 232 93 lv4 [] g3 P
      refine t_1 qpi_93 rfl (pb_goto (pc := 93) (by decide)) ?_
      show t_X d 232 2 lv4 [] g3 P
      exact hP _ _ hJ3 l0 l1
    · show t_X d 232 61 lv [] g P
      refine t_0 qpi_61 rfl (ld_i l3) ?_
      refine t_0 qpi_62 rfl (ld_a l0) ?_
      refine t_0 qpi_63 rfl (ar_55 hJ.1) ?_
      refine t_0 qpi_66 rfl (ld_i l4) ?_
      refine t_0 qpi_68 rfl (pq_ia el_229 rfl ⟨by omega, by omega⟩) ?_
      show t_X d 232 69 lv [oI (fA g 229 w), oI (e)] g P
      have r5 := gb_a hJ.1 el_229 (j := w) (by omega) ga_229
      refine t_0 qpi_69 rfl pq_sub ?_
      refine t_2 qpi_70 rfl (w := (px_s1 lv 3 (oI (e - (fA g 229 w))), [])) rfl ?_
      replace l0 : px_lg (px_s1 lv 3 (oI (e - (fA g 229 w)))) 0 = some (pvR 196) := s1_ne (by decide) (fun _ => rfl) l0
      replace l1 : px_lg (px_s1 lv 3 (oI (e - (fA g 229 w)))) 1 = some (oI ((i : Int))) := s1_ne (by decide) (fun _ => rfl) l1
      replace l4 : px_lg (px_s1 lv 3 (oI (e - (fA g 229 w)))) 4 = some (oI ((w : Int))) := s1_ne (by decide) (fun _ => rfl) l4
      have l3 : px_lg (px_s1 lv 3 (oI (e - (fA g 229 w)))) 3 = some (oI (e - (fA g 229 w))) := s1_eq
      generalize px_s1 lv 3 (oI (e - (fA g 229 w))) = lv6 at l0 l1 l4 l3 ⊢
      show t_X d 232 71 lv6 [] g P
      refine t_0 qpi_71 rfl (ld_i l4) ?_
      refine t_0 qpi_73 rfl rfl ?_
      refine t_0 qpi_74 rfl pq_add ?_
      refine t_2 qpi_75 rfl (w := (px_s1 lv6 4 (oI ((w : Int) + 1)), [])) rfl ?_
      replace l0 : px_lg (px_s1 lv6 4 (oI ((w : Int) + 1))) 0 = some (pvR 196) := s1_ne (by decide) (fun _ => rfl) l0
      replace l1 : px_lg (px_s1 lv6 4 (oI ((w : Int) + 1))) 1 = some (oI ((i : Int))) := s1_ne (by decide) (fun _ => rfl) l1
      replace l3 : px_lg (px_s1 lv6 4 (oI ((w : Int) + 1))) 3 = some (oI (e - (fA g 229 w))) := s1_ne (by decide) (fun _ => rfl) l3
      have l4 : px_lg (px_s1 lv6 4 (oI ((w : Int) + 1))) 4 = some (oI ((w : Int) + 1)) := s1_eq
      generalize px_s1 lv6 4 (oI ((w : Int) + 1)) = lv7 at l0 l1 l3 l4 ⊢
      show t_X d 232 77 lv7 [] g P
      refine t_1 qpi_77 rfl (pb_goto (pc := 77) (by decide)) ?_
      show t_X d 232 50 lv7 [] g P
      exact ih _ (w + 1) _ (by omega) (by have : sm (fA g 229) (w + 1) = sm (fA g 229) w + fA g 229 w := rfl; omega) (by omega) hJ l0 l1 l3 l4
set_option maxHeartbeats 4000000 in
theorem pi_loop {d : Nat} (hd : 12 ≤ d) (hd2 : d ≤ 1000000) {h0 : pH} (hx : xL h0) {P : Option pv × pH → Prop} (hP : ∀ (g : pH) (r : Int32), J_ Wp h0 g → P (some (.inl r), g)) : ∀ (m i : Nat) (g : pH) (lv : List (Nat × pv)), i + m = 32 → J_ Wp h0 g → px_lg lv 0 = some (pvR 196) → px_lg lv 1 = some (oI (i : Int)) → t_X d 232 2 lv [] g P := by
  intro m
  induction m with
  | zero =>
    intro i g lv hm hJ l0 l1
    obtain rfl : i = 32 := by omega
    replace l1 : px_lg lv 1 = some (oI 32) := l1
    refine t_0 qpi_2 rfl (ld_i l1) ?_
    refine t_0 qpi_3 rfl (pq_b (by decide)) ?_
    refine tb_ge qpi_5 (by decide) ⟨by omega, by omega⟩ ⟨by omega, by omega⟩ (fun c1 => ?_) (fun c1 => absurd c1 (by omega))
    show t_X d 232 96 lv [] g P
    refine t_0 qpi_96 rfl (ld_a l0) ?_
    refine t_3 qpi_97 rfl (ar := ([pvR 196], [])) (pcal_v0 rfl rfl el_196) ⟨by omega, Nat.le_of_ble_eq_true rfl, Nat.le_of_ble_eq_true rfl, rfl⟩ ?_
    refine k_use (k := kk_87) (m := 0) (kt_L (d - 1) 275 kk_87 in_87) (vs := [pvR 196]) (xs := [197]) (ys := []) hJ.1 (xL_K _ _ _ hJ.2 Wp_1.2.2.1 hx) ⟨by show 4 ≤ d - 1; omega, ⟨⟨pvR 196, rfl, rfl, rfl, ok_this⟩, trivial⟩, trivial, fun c hc => by cases hc⟩ (by omega) ⟨0, rfl, rfl⟩ (by omega) (fun o b1 b2 b3 b4 => ?_)
    obtain ⟨o1, o2⟩ := o
    obtain ⟨p, hp, zs, ⟨hr, -⟩⟩ := b4
    have hp := List.mem_singleton.mp hp
    subst hp
    obtain ⟨v, x, ys, e1, ⟨e2, e3, e4⟩, -, -⟩ := hr
    dsimp only at e1
    subst e1
    obtain ⟨r, rfl⟩ := ct_0 e2
    show t_X d 232 100 lv [.inl (r)] o2 P
    refine t_5 qpi_100 rfl rfl ?_
    exact hP _ _ (J_up (Nat.zero_and _) hJ ⟨b1, b3⟩)
  | succ m ih =>
    intro i g lv hm hJ l0 l1
    have w_a197 := Wp_1.1
    refine t_0 qpi_2 rfl (ld_i l1) ?_
    refine t_0 qpi_3 rfl (pq_b (by decide)) ?_
    refine tb_ge qpi_5 (by decide) ⟨by omega, by omega⟩ ⟨by omega, by omega⟩ (fun c1 => absurd c1 (by omega)) (fun c1 => ?_)
    show t_X d 232 8 lv [] g P
    refine t_0 qpi_8 rfl (ld_a l0) ?_
    refine t_0 qpi_9 rfl (ld_i l1) ?_
    refine t_3 qpi_10 rfl (ar := ([pvR 196, oI ((i : Int))], [])) (pcal_v1 rfl rfl el_196) ⟨by omega, Nat.le_of_ble_eq_true rfl, Nat.le_of_ble_eq_true rfl, rfl⟩ ?_
    refine chk_run (by omega) (fun t2 t100002 => ?_) ?_
    · show t_X d 232 13 lv [oI (1)] g P
      refine tz_ne qpi_13 (by decide) ⟨by omega, by omega⟩ (fun c3 => ?_) (fun c3 => absurd c3 (by omega))
      show t_X d 232 19 lv [] g P
      refine t_0 qpi_19 rfl (ld_a l0) ?_
      refine t_3 qpi_20 rfl (ar := ([pvR 196], [])) (pcal_v0 rfl rfl el_196) ⟨by omega, Nat.le_of_ble_eq_true rfl, Nat.le_of_ble_eq_true rfl, rfl⟩ ?_
      refine dr_run w_a197 hJ (fun g4 z4 hJ4 => ?_) rfl
      show t_X d 232 23 lv [.inl (z4)] g4 P
      refine t_0 qpi_23 rfl rfl ?_
      refine t_0 qpi_24 rfl (ld_a l0) ?_
      refine t_0 qpi_25 rfl (ld_i l1) ?_
      refine t_3 qpi_26 rfl (ar := ([pvR 196, oI ((i : Int))], [])) (pcal_v1 rfl rfl el_196) ⟨by omega, Nat.le_of_ble_eq_true rfl, Nat.le_of_ble_eq_true rfl, rfl⟩ ?_
      refine lh_run (by omega) hJ4.1 (xL_K _ _ _ hJ4.2 Wp_1.2.2.1 hx) (i := i) (by omega) (fun g5 hA5 => ?_) rfl rfl
      have hJ5 := J_up Wp_1.2.2.2 hJ4 hA5
      have hs5 := sm_b (f := fA g5 229) (n := 8) (fun k hk => gb_a hJ5.1 el_229 hk ga_229)
      show t_X d 232 29 lv [oI (sm (fA g5 229) 8)] g5 P
      refine t_2 qpi_29 rfl (w := (px_s1 lv 2 (oI (sm (fA g5 229) 8)), [])) rfl ?_
      replace l0 : px_lg (px_s1 lv 2 (oI (sm (fA g5 229) 8))) 0 = some (pvR 196) := s1_ne (by decide) (fun _ => rfl) l0
      replace l1 : px_lg (px_s1 lv 2 (oI (sm (fA g5 229) 8))) 1 = some (oI ((i : Int))) := s1_ne (by decide) (fun _ => rfl) l1
      have l2 : px_lg (px_s1 lv 2 (oI (sm (fA g5 229) 8))) 2 = some (oI (sm (fA g5 229) 8)) := s1_eq
      generalize px_s1 lv 2 (oI (sm (fA g5 229) 8)) = lv6 at l0 l1 l2 ⊢
      show t_X d 232 30 lv6 [] g5 P
      refine t_0 qpi_30 rfl (ld_i l2) ?_
      refine tz_ne qpi_31 (by decide) ⟨by omega, by omega⟩ (fun c7 => ?_) (fun c7 => ?_)
      · show t_X d 232 37 lv6 [] g5 P
        refine t_0 qpi_37 rfl (ld_a l0) ?_
        refine t_0 qpi_38 rfl (ar_2 hJ5.1) ?_
        refine t_0 qpi_41 rfl (pq_b (by decide)) ?_
        refine t_0 qpi_43 rfl (pq_ia el_197 rfl ⟨by omega, by omega⟩) ?_
        show t_X d 232 44 lv6 [oI (fA g5 197 41)] g5 P
        have r8 := fA_b g5 197 41
        refine t_0 qpi_44 rfl (ld_i l2) ?_
        obtain ⟨c9, hd9, hc9⟩ := pq_rt (d := d) (x := 0) (y := 0) (lv := lv6) (h := g5) (r := []) (a := fA g5 197 41) (b := sm (fA g5 229) 8) ⟨by omega, by omega⟩ ⟨by omega, by omega⟩
        refine t_0 qpi_45 rfl hc9 ?_
        refine t_2 qpi_46 rfl (w := (px_s1 lv6 3 (oI (c9)), [])) rfl ?_
        replace l0 : px_lg (px_s1 lv6 3 (oI (c9))) 0 = some (pvR 196) := s1_ne (by decide) (fun _ => rfl) l0
        replace l1 : px_lg (px_s1 lv6 3 (oI (c9))) 1 = some (oI ((i : Int))) := s1_ne (by decide) (fun _ => rfl) l1
        replace l2 : px_lg (px_s1 lv6 3 (oI (c9))) 2 = some (oI (sm (fA g5 229) 8)) := s1_ne (by decide) (fun _ => rfl) l2
        have l3 : px_lg (px_s1 lv6 3 (oI (c9))) 3 = some (oI (c9)) := s1_eq
        generalize px_s1 lv6 3 (oI (c9)) = lv10 at l0 l1 l2 l3 ⊢
        show t_X d 232 47 lv10 [] g5 P
        refine t_0 qpi_47 rfl rfl ?_
        refine t_2 qpi_48 rfl (w := (px_s1 lv10 4 (oI (0)), [])) rfl ?_
        replace l0 : px_lg (px_s1 lv10 4 (oI (0))) 0 = some (pvR 196) := s1_ne (by decide) (fun _ => rfl) l0
        replace l1 : px_lg (px_s1 lv10 4 (oI (0))) 1 = some (oI ((i : Int))) := s1_ne (by decide) (fun _ => rfl) l1
        replace l2 : px_lg (px_s1 lv10 4 (oI (0))) 2 = some (oI (sm (fA g5 229) 8)) := s1_ne (by decide) (fun _ => rfl) l2
        replace l3 : px_lg (px_s1 lv10 4 (oI (0))) 3 = some (oI (c9)) := s1_ne (by decide) (fun _ => rfl) l3
        have l4 : px_lg (px_s1 lv10 4 (oI (0))) 4 = some (oI (0)) := s1_eq
        generalize px_s1 lv10 4 (oI (0)) = lv11 at l0 l1 l2 l3 l4 ⊢
        show t_X d 232 50 lv11 [] g5 P
        refine pi_find w_a197 (i := i) (by omega) (fun g2 lv2 hJ2 u0 u1 => ?_) 8 _ 0 _ (by omega) ?_ (by omega) hJ5 l0 l1 l3 l4
        · exact ih (i + 1) _ _ (by omega) hJ2 u0 u1
        · show _ + 0 < sm (fA g5 229) 8
          omega
      · show t_X d 232 34 lv6 [] g5 P
        refine t_1 qpi_34 rfl (pb_goto (pc := 34) (by decide)) ?_
        show t_X d 232 90 lv6 [] g5 P
        refine t_2 qpi_90 rfl (w := (px_s1 lv6 1 (oI ((i : Int) + 1)), [])) (pq_inc l1 (by decide)) ?_
        replace l0 : px_lg (px_s1 lv6 1 (oI ((i : Int) + 1))) 0 = some (pvR 196) := s1_ne (by decide) (fun _ => rfl) l0
        replace l2 : px_lg (px_s1 lv6 1 (oI ((i : Int) + 1))) 2 = some (oI (sm (fA g5 229) 8)) := s1_ne (by decide) (fun _ => rfl) l2
        have l1 : px_lg (px_s1 lv6 1 (oI ((i : Int) + 1))) 1 = some (oI ((i : Int) + 1)) := s1_eq
        generalize px_s1 lv6 1 (oI ((i : Int) + 1)) = lv12 at l0 l2 l1 ⊢
        show t_X d 232 93 lv12 [] g5 P
        refine t_1 qpi_93 rfl (pb_goto (pc := 93) (by decide)) ?_
        show t_X d 232 2 lv12 [] g5 P
        exact ih (i + 1) _ _ (by omega) hJ5 l0 l1
    · show t_X d 232 13 lv [oI (0)] g P
      refine tz_ne qpi_13 (by decide) ⟨by omega, by omega⟩ (fun c13 => absurd c13 (by omega)) (fun c13 => ?_)
      show t_X d 232 16 lv [] g P
      refine t_1 qpi_16 rfl (pb_goto (pc := 16) (by decide)) ?_
      show t_X d 232 90 lv [] g P
      refine t_2 qpi_90 rfl (w := (px_s1 lv 1 (oI ((i : Int) + 1)), [])) (pq_inc l1 (by decide)) ?_
      replace l0 : px_lg (px_s1 lv 1 (oI ((i : Int) + 1))) 0 = some (pvR 196) := s1_ne (by decide) (fun _ => rfl) l0
      have l1 : px_lg (px_s1 lv 1 (oI ((i : Int) + 1))) 1 = some (oI ((i : Int) + 1)) := s1_eq
      generalize px_s1 lv 1 (oI ((i : Int) + 1)) = lv14 at l0 l1 ⊢
      show t_X d 232 93 lv14 [] g P
      refine t_1 qpi_93 rfl (pb_goto (pc := 93) (by decide)) ?_
      show t_X d 232 2 lv14 [] g P
      exact ih (i + 1) _ _ (by omega) hJ l0 l1
theorem pi_run {d : Nat} (hd : 12 ≤ d) (hd2 : d ≤ 1000000) {g : pH} (hG : g_I eG g) (hx : xL g) {P : Option pv × pH → Prop} (hP : ∀ (g1 : pH) (r : Int32), J_ Wp g g1 → P (some (.inl r), g1)) {lv : List (Nat × pv)} (l0 : px_lg lv 0 = some (pvR 196)) : t_X d 232 0 lv [] g P := by
  refine t_0 qpi_0 rfl rfl ?_
  refine t_2 qpi_1 rfl (w := (px_s1 lv 1 (oI (0)), [])) rfl ?_
  replace l0 : px_lg (px_s1 lv 1 (oI (0))) 0 = some (pvR 196) := s1_ne (by decide) (fun _ => rfl) l0
  have l1 : px_lg (px_s1 lv 1 (oI (0))) 1 = some (oI (0)) := s1_eq
  generalize px_s1 lv 1 (oI (0)) = lv1 at l0 l1 ⊢
  show t_X d 232 2 lv1 [] g P
  exact pi_loop hd hd2 hx hP 32 0 _ _ rfl (J_rf hG) l0 l1
end
