/-! by hand: both, secondsBy (printed in part by wip/e2/sb.py) -/
theorem pirem {d x y : Nat} {lv : List (Nat × pv)} {a b : Int32} {r : List pv} {h : pH} (hne : ¬ b = 0) : px_push eL d none .irem x y lv (.inl b :: .inl a :: r) h = some (.inl (a - a / b * b) :: r) := if_neg hne
theorem qb_0 : xe_look (xc 172) 0 = some (.iload_n 0, 1, 0, 0, 0) := by decide +kernel
theorem qb_1 : xe_look (xc 172) 1 = some (.iconst 4, 1, 0, 0, 0) := by decide +kernel
theorem qb_2 : xe_look (xc 172) 2 = some (.iand, 1, 0, 0, 0) := by decide +kernel
theorem qb_3 : xe_look (xc 172) 3 = some (.iload_n 1, 1, 0, 0, 0) := by decide +kernel
theorem qb_4 : xe_look (xc 172) 4 = some (.iconst 4, 1, 0, 0, 0) := by decide +kernel
theorem qb_5 : xe_look (xc 172) 5 = some (.iand, 1, 0, 0, 0) := by decide +kernel
theorem qb_6 : xe_look (xc 172) 6 = some (.ixor, 1, 0, 0, 0) := by decide +kernel
theorem qb_7 : xe_look (xc 172) 7 = some (.iload_n 1, 1, 0, 0, 0) := by decide +kernel
theorem qb_8 : xe_look (xc 172) 8 = some (.iconst 4, 1, 0, 0, 0) := by decide +kernel
theorem qb_9 : xe_look (xc 172) 9 = some (.irem, 1, 0, 0, 0) := by decide +kernel
theorem qb_10 : xe_look (xc 172) 10 = some (.iload_n 1, 1, 0, 0, 0) := by decide +kernel
theorem qb_11 : xe_look (xc 172) 11 = some (.iconst 3, 1, 0, 0, 0) := by decide +kernel
theorem qb_12 : xe_look (xc 172) 12 = some (.if_icmp .le 11, 3, 0, 0, 0) := by decide +kernel
theorem qb_15 : xe_look (xc 172) 15 = some (.iconst 4, 1, 0, 0, 0) := by decide +kernel
theorem qb_16 : xe_look (xc 172) 16 = some (.iload_n 0, 1, 0, 0, 0) := by decide +kernel
theorem qb_17 : xe_look (xc 172) 17 = some (.iconst 4, 1, 0, 0, 0) := by decide +kernel
theorem qb_18 : xe_look (xc 172) 18 = some (.irem, 1, 0, 0, 0) := by decide +kernel
theorem qb_19 : xe_look (xc 172) 19 = some (.isub, 1, 0, 0, 0) := by decide +kernel
theorem qb_20 : xe_look (xc 172) 20 = some (.goto 6, 3, 0, 0, 0) := by decide +kernel
theorem qb_23 : xe_look (xc 172) 23 = some (.iload_n 0, 1, 0, 0, 0) := by decide +kernel
theorem qb_24 : xe_look (xc 172) 24 = some (.iconst 4, 1, 0, 0, 0) := by decide +kernel
theorem qb_25 : xe_look (xc 172) 25 = some (.irem, 1, 0, 0, 0) := by decide +kernel
theorem qb_26 : xe_look (xc 172) 26 = some (.iadd, 1, 0, 0, 0) := by decide +kernel
theorem qb_27 : xe_look (xc 172) 27 = some (.iconst 4, 1, 0, 0, 0) := by decide +kernel
theorem qb_28 : xe_look (xc 172) 28 = some (.irem, 1, 0, 0, 0) := by decide +kernel
theorem qb_29 : xe_look (xc 172) 29 = some (.iadd, 1, 0, 0, 0) := by decide +kernel
theorem qb_30 : xe_look (xc 172) 30 = some (.ireturn, 1, 0, 0, 0) := by decide +kernel
theorem qy_0 : xe_look (xc 244) 0 = some (.lconst 0, 1, 0, 0, 0) := by decide +kernel
theorem qy_1 : xe_look (xc 244) 1 = some (.lstore_n 1, 1, 0, 0, 0) := by decide +kernel
theorem qy_2 : xe_look (xc 244) 2 = some (.iconst 0, 1, 0, 0, 0) := by decide +kernel
theorem qy_3 : xe_look (xc 244) 3 = some (.istore_n 3, 1, 0, 0, 0) := by decide +kernel
theorem qy_4 : xe_look (xc 244) 4 = some (.iload_n 3, 1, 0, 0, 0) := by decide +kernel
theorem qy_5 : xe_look (xc 244) 5 = some (.bipush 8, 2, 0, 0, 0) := by decide +kernel
theorem qy_7 : xe_look (xc 244) 7 = some (.if_icmp .ge 88, 3, 0, 0, 0) := by decide +kernel
theorem qy_10 : xe_look (xc 244) 10 = some (.iload_n 3, 1, 0, 0, 0) := by decide +kernel
theorem qy_11 : xe_look (xc 244) 11 = some (.istore 4, 2, 0, 0, 0) := by decide +kernel
theorem qy_13 : xe_look (xc 244) 13 = some (.iconst 0, 1, 0, 0, 0) := by decide +kernel
theorem qy_14 : xe_look (xc 244) 14 = some (.istore 5, 2, 0, 0, 0) := by decide +kernel
theorem qy_16 : xe_look (xc 244) 16 = some (.iconst 0, 1, 0, 0, 0) := by decide +kernel
theorem qy_17 : xe_look (xc 244) 17 = some (.istore 6, 2, 0, 0, 0) := by decide +kernel
theorem qy_19 : xe_look (xc 244) 19 = some (.iload 6, 2, 0, 0, 0) := by decide +kernel
theorem qy_21 : xe_look (xc 244) 21 = some (.bipush 7, 2, 0, 0, 0) := by decide +kernel
theorem qy_23 : xe_look (xc 244) 23 = some (.if_icmp .ge 52, 3, 0, 0, 0) := by decide +kernel
theorem qy_26 : xe_look (xc 244) 26 = some (.aload_n 0, 1, 0, 0, 0) := by decide +kernel
theorem qy_27 : xe_look (xc 244) 27 = some (.getfield 444, 3, 12, 61, 1238) := by decide +kernel
theorem qy_30 : xe_look (xc 244) 30 = some (.iload 4, 2, 0, 0, 0) := by decide +kernel
theorem qy_32 : xe_look (xc 244) 32 = some (.invokestatic 187, 3, 0, 196, 1121) := by decide +kernel
theorem qy_35 : xe_look (xc 244) 35 = some (.ifCond .ne 40, 3, 0, 0, 0) := by decide +kernel
theorem qy_38 : xe_look (xc 244) 38 = some (.iload 5, 2, 0, 0, 0) := by decide +kernel
theorem qy_40 : xe_look (xc 244) 40 = some (.aload_n 0, 1, 0, 0, 0) := by decide +kernel
theorem qy_41 : xe_look (xc 244) 41 = some (.getfield 110, 3, 12, 56, 1199) := by decide +kernel
theorem qy_44 : xe_look (xc 244) 44 = some (.aload_n 0, 1, 0, 0, 0) := by decide +kernel
theorem qy_45 : xe_look (xc 244) 45 = some (.getfield 113, 3, 12, 57, 1200) := by decide +kernel
theorem qy_48 : xe_look (xc 244) 48 = some (.iload 6, 2, 0, 0, 0) := by decide +kernel
theorem qy_50 : xe_look (xc 244) 50 = some (.iaload, 1, 0, 0, 0) := by decide +kernel
theorem qy_51 : xe_look (xc 244) 51 = some (.iaload, 1, 0, 0, 0) := by decide +kernel
theorem qy_52 : xe_look (xc 244) 52 = some (.iadd, 1, 0, 0, 0) := by decide +kernel
theorem qy_53 : xe_look (xc 244) 53 = some (.istore 5, 2, 0, 0, 0) := by decide +kernel
theorem qy_55 : xe_look (xc 244) 55 = some (.iload 4, 2, 0, 0, 0) := by decide +kernel
theorem qy_57 : xe_look (xc 244) 57 = some (.aload_n 0, 1, 0, 0, 0) := by decide +kernel
theorem qy_58 : xe_look (xc 244) 58 = some (.getfield 113, 3, 12, 57, 1200) := by decide +kernel
theorem qy_61 : xe_look (xc 244) 61 = some (.iload 6, 2, 0, 0, 0) := by decide +kernel
theorem qy_63 : xe_look (xc 244) 63 = some (.iaload, 1, 0, 0, 0) := by decide +kernel
theorem qy_64 : xe_look (xc 244) 64 = some (.invokestatic 218, 3, 0, 172, 1240) := by decide +kernel
theorem qy_67 : xe_look (xc 244) 67 = some (.istore 4, 2, 0, 0, 0) := by decide +kernel
theorem qy_69 : xe_look (xc 244) 69 = some (.iinc 6 1, 3, 0, 0, 0) := by decide +kernel
theorem qy_72 : xe_look (xc 244) 72 = some (.goto (-53), 3, 0, 0, 0) := by decide +kernel
theorem qy_75 : xe_look (xc 244) 75 = some (.lload_n 1, 1, 0, 0, 0) := by decide +kernel
theorem qy_76 : xe_look (xc 244) 76 = some (.aload_n 0, 1, 0, 0, 0) := by decide +kernel
theorem qy_77 : xe_look (xc 244) 77 = some (.getfield 107, 3, 12, 55, 1187) := by decide +kernel
theorem qy_80 : xe_look (xc 244) 80 = some (.iload_n 3, 1, 0, 0, 0) := by decide +kernel
theorem qy_81 : xe_look (xc 244) 81 = some (.iaload, 1, 0, 0, 0) := by decide +kernel
theorem qy_82 : xe_look (xc 244) 82 = some (.i2l, 1, 0, 0, 0) := by decide +kernel
theorem qy_83 : xe_look (xc 244) 83 = some (.iload 5, 2, 0, 0, 0) := by decide +kernel
theorem qy_85 : xe_look (xc 244) 85 = some (.i2l, 1, 0, 0, 0) := by decide +kernel
theorem qy_86 : xe_look (xc 244) 86 = some (.lmul, 1, 0, 0, 0) := by decide +kernel
theorem qy_87 : xe_look (xc 244) 87 = some (.ladd, 1, 0, 0, 0) := by decide +kernel
theorem qy_88 : xe_look (xc 244) 88 = some (.lstore_n 1, 1, 0, 0, 0) := by decide +kernel
theorem qy_89 : xe_look (xc 244) 89 = some (.iinc 3 1, 3, 0, 0, 0) := by decide +kernel
theorem qy_92 : xe_look (xc 244) 92 = some (.goto (-88), 3, 0, 0, 0) := by decide +kernel
theorem qy_95 : xe_look (xc 244) 95 = some (.lload_n 1, 1, 0, 0, 0) := by decide +kernel
theorem qy_96 : xe_look (xc 244) 96 = some (.lreturn, 1, 0, 0, 0) := by decide +kernel
def bo_1 (p q : Int32) : Int32 := (((p) &&& (Int32.ofInt (4))) ^^^ ((q) &&& (Int32.ofInt (4)))) + ((((q) - (q) / (Int32.ofInt (4)) * (Int32.ofInt (4))) + ((Int32.ofInt (4)) - ((p) - (p) / (Int32.ofInt (4)) * (Int32.ofInt (4))))) - (((q) - (q) / (Int32.ofInt (4)) * (Int32.ofInt (4))) + ((Int32.ofInt (4)) - ((p) - (p) / (Int32.ofInt (4)) * (Int32.ofInt (4))))) / (Int32.ofInt (4)) * (Int32.ofInt (4)))
def bo_2 (p q : Int32) : Int32 := (((p) &&& (Int32.ofInt (4))) ^^^ ((q) &&& (Int32.ofInt (4)))) + ((((q) - (q) / (Int32.ofInt (4)) * (Int32.ofInt (4))) + ((p) - (p) / (Int32.ofInt (4)) * (Int32.ofInt (4)))) - (((q) - (q) / (Int32.ofInt (4)) * (Int32.ofInt (4))) + ((p) - (p) / (Int32.ofInt (4)) * (Int32.ofInt (4)))) / (Int32.ofInt (4)) * (Int32.ofInt (4)))
theorem bo_b {i k : Nat} (hi : i < 8) (hk : k < 8) : ((Int32.ofInt 3 < nI k) → 0 ≤ (bo_1 (nI i) (nI k)).toInt ∧ (bo_1 (nI i) (nI k)).toInt ≤ 7) ∧ (¬ (Int32.ofInt 3 < nI k) → 0 ≤ (bo_2 (nI i) (nI k)).toInt ∧ (bo_2 (nI i) (nI k)).toInt ≤ 7) := by
  have : ∀ i, i < 8 → ∀ k, k < 8 → ((Int32.ofInt 3 < nI k) → 0 ≤ (bo_1 (nI i) (nI k)).toInt ∧ (bo_1 (nI i) (nI k)).toInt ≤ 7) ∧ (¬ (Int32.ofInt 3 < nI k) → 0 ≤ (bo_2 (nI i) (nI k)).toInt ∧ (bo_2 (nI i) (nI k)).toInt ≤ 7) := by decide +kernel
  exact this i hi k hk
set_option maxHeartbeats 2000000 in
theorem both_go {d : Nat} {h : pH} {p q : Int32} {lv : List (Nat × pv)} {P : Option pv × pH → Prop} (l0 : px_lg lv 0 = some (.inl p)) (l1 : px_lg lv 1 = some (.inl q)) (h1 : Int32.ofInt 3 < q → P (some (.inl (bo_1 p q)), h)) (h2 : ¬ (Int32.ofInt 3 < q) → P (some (.inl (bo_2 p q)), h)) : t_X d 172 0 lv [] h P := by
  refine t_0 qb_0 rfl (ld_i l0) ?_
  refine t_0 qb_1 rfl rfl ?_
  refine t_0 qb_2 rfl rfl ?_
  refine t_0 qb_3 rfl (ld_i l1) ?_
  refine t_0 qb_4 rfl rfl ?_
  refine t_0 qb_5 rfl rfl ?_
  refine t_0 qb_6 rfl rfl ?_
  refine t_0 qb_7 rfl (ld_i l1) ?_
  refine t_0 qb_8 rfl rfl ?_
  refine t_0 qb_9 rfl (pirem (by decide +kernel)) ?_
  refine t_0 qb_10 rfl (ld_i l1) ?_
  refine t_0 qb_11 rfl rfl ?_
  by_cases hq : Int32.ofInt 3 < q
  · refine t_1 qb_12 rfl (pc_le_f (pc := 12) (by decide) hq) ?_
    show t_X d 172 15 lv [.inl ((q) - (q) / (Int32.ofInt (4)) * (Int32.ofInt (4))), .inl (((p) &&& (Int32.ofInt (4))) ^^^ ((q) &&& (Int32.ofInt (4))))] h P
    refine t_0 qb_15 rfl rfl ?_
    refine t_0 qb_16 rfl (ld_i l0) ?_
    refine t_0 qb_17 rfl rfl ?_
    refine t_0 qb_18 rfl (pirem (by decide +kernel)) ?_
    refine t_0 qb_19 rfl rfl ?_
    refine t_1 qb_20 rfl (pb_goto (pc := 20) (by decide)) ?_
    show t_X d 172 26 lv [.inl ((Int32.ofInt (4)) - ((p) - (p) / (Int32.ofInt (4)) * (Int32.ofInt (4)))), .inl ((q) - (q) / (Int32.ofInt (4)) * (Int32.ofInt (4))), .inl (((p) &&& (Int32.ofInt (4))) ^^^ ((q) &&& (Int32.ofInt (4))))] h P
    refine t_0 qb_26 rfl rfl ?_
    refine t_0 qb_27 rfl rfl ?_
    refine t_0 qb_28 rfl (pirem (by decide +kernel)) ?_
    refine t_0 qb_29 rfl rfl ?_
    refine t_5 qb_30 rfl rfl ?_
    exact h1 hq
  · refine t_1 qb_12 rfl (pc_le_t (pc := 12) (by decide) hq) ?_
    show t_X d 172 23 lv [.inl ((q) - (q) / (Int32.ofInt (4)) * (Int32.ofInt (4))), .inl (((p) &&& (Int32.ofInt (4))) ^^^ ((q) &&& (Int32.ofInt (4))))] h P
    refine t_0 qb_23 rfl (ld_i l0) ?_
    refine t_0 qb_24 rfl rfl ?_
    refine t_0 qb_25 rfl (pirem (by decide +kernel)) ?_
    refine t_0 qb_26 rfl rfl ?_
    refine t_0 qb_27 rfl rfl ?_
    refine t_0 qb_28 rfl (pirem (by decide +kernel)) ?_
    refine t_0 qb_29 rfl rfl ?_
    refine t_5 qb_30 rfl rfl ?_
    exact h2 hq
theorem i_nI {p : Int32} {n : Nat} (h0 : 0 ≤ p.toInt) (h1 : p.toInt ≤ n) (hn : n < 1000) : ∃ i : Nat, i ≤ n ∧ p = nI i := ⟨p.toInt.toNat, by omega, Int32.toInt_inj.mp (by rw [nI_toInt (by omega)]; omega)⟩
theorem both_run {d : Nat} {h : pH} {p q : Int32} {P : Option pv × pH → Prop} (hp : 0 ≤ p.toInt ∧ p.toInt ≤ 7) (hq : 0 ≤ q.toInt ∧ q.toInt ≤ 7) (hP : ∀ r : Int32, 0 ≤ r.toInt → r.toInt ≤ 7 → P (some (.inl r), h)) : t_X d 172 0 [(0, .inl p), (1, .inl q)] [] h P := by
  obtain ⟨i, hi, rfl⟩ := i_nI (n := 7) hp.1 hp.2 (by decide)
  obtain ⟨k, hk, rfl⟩ := i_nI (n := 7) hq.1 hq.2 (by decide)
  have hb := bo_b (i := i) (k := k) (by omega) (by omega)
  exact both_go rfl rfl (fun z => hP _ (hb.1 z).1 (hb.1 z).2) (fun z => hP _ (hb.2 z).1 (hb.2 z).2)
theorem el_229 : eL[229]? = some (1, 8) := by decide +kernel
theorem el_230 : eL[230]? = some (1, 8) := by decide +kernel
theorem el_231 : eL[231]? = some (1, 7) := by decide +kernel
theorem eg_f55 : (eG (cn 196 + 55)).2.2 = [230] := by decide +kernel
theorem eg_f56 : (eG (cn 196 + 56)).2.2 = [231] := by decide +kernel
theorem eg_f57 : (eG (cn 196 + 57)).2.2 = [232] := by decide +kernel
set_option maxHeartbeats 4000000 in
theorem sb_in {d : Nat} (hd : 2 ≤ d) {h : pH} (hG : g_I eG h) (hrow : ∀ j, j < 7 → 1 ≤ (h.2.2.2.1 231 j).toInt ∧ (h.2.2.2.1 231 j).toInt ≤ 7) {P : Option pv × pH → Prop} {i : Nat} {acc : Int64} (hC : ∀ (lv : List (Nat × pv)) (x5 : Int32), px_lg lv 0 = some (.inr (.inr (some 196))) → px_lg lv 1 = some (.inr (.inl acc)) → px_lg lv 3 = some (.inl (nI i)) → px_lg lv 5 = some (.inl x5) → t_X d 244 75 lv [] h P) : ∀ (m z : Nat) (w x5 : Int32) (lv : List (Nat × pv)), z + m = 7 → 0 ≤ w.toInt ∧ w.toInt ≤ 7 → px_lg lv 0 = some (.inr (.inr (some 196))) → px_lg lv 1 = some (.inr (.inl acc)) → px_lg lv 3 = some (.inl (nI i)) → px_lg lv 4 = some (.inl w) → px_lg lv 5 = some (.inl x5) → px_lg lv 6 = some (.inl (nI z)) → t_X d 244 19 lv [] h P := by
  intro m
  induction m with
  | zero =>
    intro z w x5 lv hz hw7 l0 l1 l3 l4 l5 l6
    have hlt : ¬ nI z < (Int8.ofInt (7)).toInt32 := by
      rw [show z = 7 by omega]
      decide +kernel
    refine t_0 qy_19 rfl (ld_i l6) ?_
    refine t_0 qy_21 rfl rfl ?_
    refine t_1 qy_23 rfl (pc_ge_t (pc := 23) (by decide) hlt) ?_
    exact hC lv x5 l0 l1 l3 l5
  | succ m ih =>
    intro z w x5 lv hz hw7 l0 l1 l3 l4 l5 l6
    have hlt : nI z < (Int8.ofInt (7)).toInt32 := by
      have : ∀ j, j < 7 → nI j < (Int8.ofInt (7)).toInt32 := by decide +kernel
      exact this z (by omega)
    have ht := gI_r (r := 230) hG el_196 (Nat.le_of_ble_eq_true rfl) (y := 56) rfl eg_f56
    have hw := gI_r (r := 231) hG el_196 (Nat.le_of_ble_eq_true rfl) (y := 57) rfl eg_f57
    have hcl : ¬ (nI z < 0 ∨ 7 ≤ (nI z).toNatClampNeg) := e_clamp (by rw [nI_toInt (by omega)]; omega) (by rw [nI_toInt (by omega)]; omega)
    have hzz : (nI z).toNatClampNeg = z := by
      show (nI z).toInt.toNat = z
      rw [nI_toInt (by omega)]
      omega
    have hrz := hrow (nI z).toNatClampNeg (by rw [hzz]; omega)
    have hcr : ¬ (h.2.2.2.1 231 (nI z).toNatClampNeg < 0 ∨ 8 ≤ (h.2.2.2.1 231 (nI z).toNatClampNeg).toNatClampNeg) := e_clamp (by omega) (by omega)
    refine t_0 qy_19 rfl (ld_i l6) ?_
    refine t_0 qy_21 rfl rfl ?_
    refine t_1 qy_23 rfl (pc_ge_f (pc := 23) (by decide) hlt) ?_
    show t_X d 244 26 lv [] h P
    refine t_0 qy_26 rfl (ld_a l0) ?_
    refine t_0 qy_27 rfl (pget el_196 (pFi rfl)) ?_
    refine t_0 qy_30 rfl (ld_i l4) ?_
    refine t_3 qy_32 rfl (ar := ([.inl (h.1 196 61), .inl w], [])) (pcal_s ⟨Or.inl rfl, rfl, Nat.le_of_ble_eq_true rfl⟩) ⟨by omega, Nat.le_of_ble_eq_true rfl, Nat.le_of_ble_eq_true rfl, rfl⟩ ?_
    refine has_run (fun _ => ?_) (fun _ => ?_)
    · show t_X d 244 35 lv [.inl (Int32.ofInt 1)] h P
      refine t_1 qy_35 rfl (pb_ne_t (pc := 35) (by decide) i1_n) ?_
      exact hC lv x5 l0 l1 l3 l5
    · show t_X d 244 35 lv [.inl (Int32.ofInt 0)] h P
      refine t_1 qy_35 rfl (pb_ne_f (pc := 35) (by decide) i0_0) ?_
      show t_X d 244 38 lv [] h P
      refine t_0 qy_38 rfl (ld_i l5) ?_
      refine t_0 qy_40 rfl (ld_a l0) ?_
      refine t_0 qy_41 rfl (pget el_196 ht) ?_
      refine t_0 qy_44 rfl (ld_a l0) ?_
      refine t_0 qy_45 rfl (pget el_196 hw) ?_
      refine t_0 qy_48 rfl (ld_i l6) ?_
      refine t_0 qy_50 rfl (piald (by decide) el_231 hcl) ?_
      refine t_0 qy_51 rfl (piald (by decide) el_230 hcr) ?_
      refine t_0 qy_52 rfl rfl ?_
      refine t_2 qy_53 rfl (w := (px_s1 lv 5 (.inl ((x5) + (h.2.2.2.1 230 (h.2.2.2.1 231 (nI z).toNatClampNeg).toNatClampNeg))), [])) rfl ?_
      replace l0 : px_lg (px_s1 lv 5 (.inl ((x5) + (h.2.2.2.1 230 (h.2.2.2.1 231 (nI z).toNatClampNeg).toNatClampNeg)))) 0 = some (.inr (.inr (some 196))) := s1_ne (by decide) (fun _ => rfl) l0
      replace l1 : px_lg (px_s1 lv 5 (.inl ((x5) + (h.2.2.2.1 230 (h.2.2.2.1 231 (nI z).toNatClampNeg).toNatClampNeg)))) 1 = some (.inr (.inl (acc))) := s1_ne (by decide) (fun z => absurd z (by decide)) l1
      replace l3 : px_lg (px_s1 lv 5 (.inl ((x5) + (h.2.2.2.1 230 (h.2.2.2.1 231 (nI z).toNatClampNeg).toNatClampNeg)))) 3 = some (.inl (nI i)) := s1_ne (by decide) (fun _ => rfl) l3
      replace l4 : px_lg (px_s1 lv 5 (.inl ((x5) + (h.2.2.2.1 230 (h.2.2.2.1 231 (nI z).toNatClampNeg).toNatClampNeg)))) 4 = some (.inl (w)) := s1_ne (by decide) (fun _ => rfl) l4
      replace l6 : px_lg (px_s1 lv 5 (.inl ((x5) + (h.2.2.2.1 230 (h.2.2.2.1 231 (nI z).toNatClampNeg).toNatClampNeg)))) 6 = some (.inl (nI z)) := s1_ne (by decide) (fun _ => rfl) l6
      have l5 : px_lg (px_s1 lv 5 (.inl ((x5) + (h.2.2.2.1 230 (h.2.2.2.1 231 (nI z).toNatClampNeg).toNatClampNeg)))) 5 = some (.inl ((x5) + (h.2.2.2.1 230 (h.2.2.2.1 231 (nI z).toNatClampNeg).toNatClampNeg))) := s1_eq
      generalize px_s1 lv 5 (.inl ((x5) + (h.2.2.2.1 230 (h.2.2.2.1 231 (nI z).toNatClampNeg).toNatClampNeg))) = lv1 at l0 l1 l3 l4 l6 l5 ⊢
      show t_X d 244 55 lv1 [] h P
      refine t_0 qy_55 rfl (ld_i l4) ?_
      refine t_0 qy_57 rfl (ld_a l0) ?_
      refine t_0 qy_58 rfl (pget el_196 hw) ?_
      refine t_0 qy_61 rfl (ld_i l6) ?_
      refine t_0 qy_63 rfl (piald (by decide) el_231 hcl) ?_
      refine t_3 qy_64 rfl (ar := ([.inl w, .inl (h.2.2.2.1 231 (nI z).toNatClampNeg)], [])) (pcal_s ⟨Or.inl rfl, rfl, Nat.le_of_ble_eq_true rfl⟩) ⟨by omega, Nat.le_of_ble_eq_true rfl, Nat.le_of_ble_eq_true rfl, rfl⟩ ?_
      refine both_run hw7 ⟨by omega, hrz.2⟩ (fun r r0 r7 => ?_)
      show t_X d 244 67 lv1 [.inl r] h P
      refine t_2 qy_67 rfl (w := (px_s1 lv1 4 (.inl (r)), [])) rfl ?_
      replace l0 : px_lg (px_s1 lv1 4 (.inl (r))) 0 = some (.inr (.inr (some 196))) := s1_ne (by decide) (fun _ => rfl) l0
      replace l1 : px_lg (px_s1 lv1 4 (.inl (r))) 1 = some (.inr (.inl (acc))) := s1_ne (by decide) (fun z => absurd z (by decide)) l1
      replace l3 : px_lg (px_s1 lv1 4 (.inl (r))) 3 = some (.inl (nI i)) := s1_ne (by decide) (fun _ => rfl) l3
      replace l6 : px_lg (px_s1 lv1 4 (.inl (r))) 6 = some (.inl (nI z)) := s1_ne (by decide) (fun _ => rfl) l6
      replace l5 : px_lg (px_s1 lv1 4 (.inl (r))) 5 = some (.inl ((x5) + (h.2.2.2.1 230 (h.2.2.2.1 231 (nI z).toNatClampNeg).toNatClampNeg))) := s1_ne (by decide) (fun _ => rfl) l5
      have l4 : px_lg (px_s1 lv1 4 (.inl (r))) 4 = some (.inl (r)) := s1_eq
      generalize px_s1 lv1 4 (.inl (r)) = lv2 at l0 l1 l3 l6 l5 l4 ⊢
      show t_X d 244 69 lv2 [] h P
      refine t_2 qy_69 rfl (w := (px_s1 lv2 6 (.inl ((nI z) + Int32.ofInt (1))), [])) (pinc l6 (by decide)) ?_
      replace l0 : px_lg (px_s1 lv2 6 (.inl ((nI z) + Int32.ofInt (1)))) 0 = some (.inr (.inr (some 196))) := s1_ne (by decide) (fun _ => rfl) l0
      replace l1 : px_lg (px_s1 lv2 6 (.inl ((nI z) + Int32.ofInt (1)))) 1 = some (.inr (.inl (acc))) := s1_ne (by decide) (fun z => absurd z (by decide)) l1
      replace l3 : px_lg (px_s1 lv2 6 (.inl ((nI z) + Int32.ofInt (1)))) 3 = some (.inl (nI i)) := s1_ne (by decide) (fun _ => rfl) l3
      replace l5 : px_lg (px_s1 lv2 6 (.inl ((nI z) + Int32.ofInt (1)))) 5 = some (.inl ((x5) + (h.2.2.2.1 230 (h.2.2.2.1 231 (nI z).toNatClampNeg).toNatClampNeg))) := s1_ne (by decide) (fun _ => rfl) l5
      replace l4 : px_lg (px_s1 lv2 6 (.inl ((nI z) + Int32.ofInt (1)))) 4 = some (.inl (r)) := s1_ne (by decide) (fun _ => rfl) l4
      have l6 : px_lg (px_s1 lv2 6 (.inl ((nI z) + Int32.ofInt (1)))) 6 = some (.inl ((nI z) + Int32.ofInt (1))) := s1_eq
      generalize px_s1 lv2 6 (.inl ((nI z) + Int32.ofInt (1))) = lv3 at l0 l1 l3 l5 l4 l6 ⊢
      show t_X d 244 72 lv3 [] h P
      refine t_1 qy_72 rfl (pb_goto (pc := 72) (by decide)) ?_
      show t_X d 244 19 lv3 [] h P
      rw [j_inc (by omega)] at l6
      exact ih (z + 1) r _ _ (by omega) ⟨r0, r7⟩ l0 l1 l3 l4 l5 l6
set_option maxHeartbeats 4000000 in
theorem sb_out {d : Nat} (hd : 2 ≤ d) {h : pH} (hG : g_I eG h) (hrow : ∀ j, j < 7 → 1 ≤ (h.2.2.2.1 231 j).toInt ∧ (h.2.2.2.1 231 j).toInt ≤ 7) {P : Option pv × pH → Prop} (hP : ∀ x : Int64, P (some (.inr (.inl x)), h)) : ∀ (m i : Nat) (acc : Int64) (lv : List (Nat × pv)), i + m = 8 → px_lg lv 0 = some (.inr (.inr (some 196))) → px_lg lv 1 = some (.inr (.inl acc)) → px_lg lv 3 = some (.inl (nI i)) → t_X d 244 4 lv [] h P := by
  intro m
  induction m with
  | zero =>
    intro i acc lv hi l0 l1 l3
    have hlt : ¬ nI i < (Int8.ofInt (8)).toInt32 := by
      rw [show i = 8 by omega]
      decide +kernel
    refine t_0 qy_4 rfl (ld_i l3) ?_
    refine t_0 qy_5 rfl rfl ?_
    refine t_1 qy_7 rfl (pc_ge_t (pc := 7) (by decide) hlt) ?_
    refine t_0 qy_95 rfl (ld_l l1) ?_
    refine t_5 qy_96 rfl rfl ?_
    exact hP acc
  | succ m ih =>
    intro i acc lv hi l0 l1 l3
    have hlt : nI i < (Int8.ofInt (8)).toInt32 := by
      have : ∀ j, j < 8 → nI j < (Int8.ofInt (8)).toInt32 := by decide +kernel
      exact this i (by omega)
    have hh := gI_r (r := 229) hG el_196 (Nat.le_of_ble_eq_true rfl) (y := 55) rfl eg_f55
    have hcl : ¬ (nI i < 0 ∨ 8 ≤ (nI i).toNatClampNeg) := e_clamp (by rw [nI_toInt (by omega)]; omega) (by rw [nI_toInt (by omega)]; omega)
    refine t_0 qy_4 rfl (ld_i l3) ?_
    refine t_0 qy_5 rfl rfl ?_
    refine t_1 qy_7 rfl (pc_ge_f (pc := 7) (by decide) hlt) ?_
    show t_X d 244 10 lv [] h P
    refine t_0 qy_10 rfl (ld_i l3) ?_
    refine t_2 qy_11 rfl (w := (px_s1 lv 4 (.inl (nI i)), [])) rfl ?_
    replace l0 : px_lg (px_s1 lv 4 (.inl (nI i))) 0 = some (.inr (.inr (some 196))) := s1_ne (by decide) (fun _ => rfl) l0
    replace l1 : px_lg (px_s1 lv 4 (.inl (nI i))) 1 = some (.inr (.inl (acc))) := s1_ne (by decide) (fun z => absurd z (by decide)) l1
    replace l3 : px_lg (px_s1 lv 4 (.inl (nI i))) 3 = some (.inl (nI i)) := s1_ne (by decide) (fun _ => rfl) l3
    have l4 : px_lg (px_s1 lv 4 (.inl (nI i))) 4 = some (.inl (nI i)) := s1_eq
    generalize px_s1 lv 4 (.inl (nI i)) = lv1 at l0 l1 l3 l4 ⊢
    show t_X d 244 13 lv1 [] h P
    refine t_0 qy_13 rfl rfl ?_
    refine t_2 qy_14 rfl (w := (px_s1 lv1 5 (.inl (Int32.ofInt (0))), [])) rfl ?_
    replace l0 : px_lg (px_s1 lv1 5 (.inl (Int32.ofInt (0)))) 0 = some (.inr (.inr (some 196))) := s1_ne (by decide) (fun _ => rfl) l0
    replace l1 : px_lg (px_s1 lv1 5 (.inl (Int32.ofInt (0)))) 1 = some (.inr (.inl (acc))) := s1_ne (by decide) (fun z => absurd z (by decide)) l1
    replace l3 : px_lg (px_s1 lv1 5 (.inl (Int32.ofInt (0)))) 3 = some (.inl (nI i)) := s1_ne (by decide) (fun _ => rfl) l3
    replace l4 : px_lg (px_s1 lv1 5 (.inl (Int32.ofInt (0)))) 4 = some (.inl (nI i)) := s1_ne (by decide) (fun _ => rfl) l4
    have l5 : px_lg (px_s1 lv1 5 (.inl (Int32.ofInt (0)))) 5 = some (.inl (Int32.ofInt (0))) := s1_eq
    generalize px_s1 lv1 5 (.inl (Int32.ofInt (0))) = lv2 at l0 l1 l3 l4 l5 ⊢
    show t_X d 244 16 lv2 [] h P
    refine t_0 qy_16 rfl rfl ?_
    refine t_2 qy_17 rfl (w := (px_s1 lv2 6 (.inl (Int32.ofInt (0))), [])) rfl ?_
    replace l0 : px_lg (px_s1 lv2 6 (.inl (Int32.ofInt (0)))) 0 = some (.inr (.inr (some 196))) := s1_ne (by decide) (fun _ => rfl) l0
    replace l1 : px_lg (px_s1 lv2 6 (.inl (Int32.ofInt (0)))) 1 = some (.inr (.inl (acc))) := s1_ne (by decide) (fun z => absurd z (by decide)) l1
    replace l3 : px_lg (px_s1 lv2 6 (.inl (Int32.ofInt (0)))) 3 = some (.inl (nI i)) := s1_ne (by decide) (fun _ => rfl) l3
    replace l4 : px_lg (px_s1 lv2 6 (.inl (Int32.ofInt (0)))) 4 = some (.inl (nI i)) := s1_ne (by decide) (fun _ => rfl) l4
    replace l5 : px_lg (px_s1 lv2 6 (.inl (Int32.ofInt (0)))) 5 = some (.inl (Int32.ofInt (0))) := s1_ne (by decide) (fun _ => rfl) l5
    have l6 : px_lg (px_s1 lv2 6 (.inl (Int32.ofInt (0)))) 6 = some (.inl (Int32.ofInt (0))) := s1_eq
    generalize px_s1 lv2 6 (.inl (Int32.ofInt (0))) = lv3 at l0 l1 l3 l4 l5 l6 ⊢
    show t_X d 244 19 lv3 [] h P
    refine sb_in hd hG hrow (i := i) (acc := acc) (fun lvx x5 l0 l1 l3 l5 => ?_) 7 0 (nI i) _ _ rfl ⟨by rw [nI_toInt (by omega)]; omega, by rw [nI_toInt (by omega)]; omega⟩ l0 l1 l3 l4 l5 l6
    refine t_0 qy_75 rfl (ld_l l1) ?_
    refine t_0 qy_76 rfl (ld_a l0) ?_
    refine t_0 qy_77 rfl (pget el_196 hh) ?_
    refine t_0 qy_80 rfl (ld_i l3) ?_
    refine t_0 qy_81 rfl (piald (by decide) el_229 hcl) ?_
    refine t_0 qy_82 rfl rfl ?_
    refine t_0 qy_83 rfl (ld_i l5) ?_
    refine t_0 qy_85 rfl rfl ?_
    refine t_0 qy_86 rfl rfl ?_
    refine t_0 qy_87 rfl rfl ?_
    refine t_2 qy_88 rfl (w := (px_s2 lvx 1 (.inr (.inl ((acc) + ((Int32.toInt64 (h.2.2.2.1 229 (nI i).toNatClampNeg)) * (Int32.toInt64 (x5)))))), [])) rfl ?_
    replace l0 : px_lg (px_s2 lvx 1 (.inr (.inl ((acc) + ((Int32.toInt64 (h.2.2.2.1 229 (nI i).toNatClampNeg)) * (Int32.toInt64 (x5))))))) 0 = some (.inr (.inr (some 196))) := s2_ne (by decide) (fun _ => rfl) l0
    replace l3 : px_lg (px_s2 lvx 1 (.inr (.inl ((acc) + ((Int32.toInt64 (h.2.2.2.1 229 (nI i).toNatClampNeg)) * (Int32.toInt64 (x5))))))) 3 = some (.inl (nI i)) := s2_ne (by decide) (fun _ => rfl) l3
    replace l5 : px_lg (px_s2 lvx 1 (.inr (.inl ((acc) + ((Int32.toInt64 (h.2.2.2.1 229 (nI i).toNatClampNeg)) * (Int32.toInt64 (x5))))))) 5 = some (.inl (x5)) := s2_ne (by decide) (fun _ => rfl) l5
    have l1 : px_lg (px_s2 lvx 1 (.inr (.inl ((acc) + ((Int32.toInt64 (h.2.2.2.1 229 (nI i).toNatClampNeg)) * (Int32.toInt64 (x5))))))) 1 = some (.inr (.inl ((acc) + ((Int32.toInt64 (h.2.2.2.1 229 (nI i).toNatClampNeg)) * (Int32.toInt64 (x5)))))) := s2_eq
    generalize px_s2 lvx 1 (.inr (.inl ((acc) + ((Int32.toInt64 (h.2.2.2.1 229 (nI i).toNatClampNeg)) * (Int32.toInt64 (x5)))))) = lv21 at l0 l3 l5 l1 ⊢
    show t_X d 244 89 lv21 [] h P
    refine t_2 qy_89 rfl (w := (px_s1 lv21 3 (.inl ((nI i) + Int32.ofInt (1))), [])) (pinc l3 (by decide)) ?_
    replace l0 : px_lg (px_s1 lv21 3 (.inl ((nI i) + Int32.ofInt (1)))) 0 = some (.inr (.inr (some 196))) := s1_ne (by decide) (fun _ => rfl) l0
    replace l5 : px_lg (px_s1 lv21 3 (.inl ((nI i) + Int32.ofInt (1)))) 5 = some (.inl (x5)) := s1_ne (by decide) (fun _ => rfl) l5
    replace l1 : px_lg (px_s1 lv21 3 (.inl ((nI i) + Int32.ofInt (1)))) 1 = some (.inr (.inl ((acc) + ((Int32.toInt64 (h.2.2.2.1 229 (nI i).toNatClampNeg)) * (Int32.toInt64 (x5)))))) := s1_ne (by decide) (fun z => absurd z (by decide)) l1
    have l3 : px_lg (px_s1 lv21 3 (.inl ((nI i) + Int32.ofInt (1)))) 3 = some (.inl ((nI i) + Int32.ofInt (1))) := s1_eq
    generalize px_s1 lv21 3 (.inl ((nI i) + Int32.ofInt (1))) = lv22 at l0 l5 l1 l3 ⊢
    show t_X d 244 92 lv22 [] h P
    refine t_1 qy_92 rfl (pb_goto (pc := 92) (by decide)) ?_
    show t_X d 244 4 lv22 [] h P
    rw [j_inc (by omega)] at l3
    exact ih (i + 1) _ _ (by omega) l0 l1 l3
set_option maxHeartbeats 2000000 in
/-- secondsBy, where rowNow holds a row of 1 to 7 -/
theorem sb_run {d : Nat} (hd : 2 ≤ d) {h : pH} {lv : List (Nat × pv)} (hG : g_I eG h) (hrow : ∀ j, j < 7 → 1 ≤ (h.2.2.2.1 231 j).toInt ∧ (h.2.2.2.1 231 j).toInt ≤ 7) {P : Option pv × pH → Prop} (hP : ∀ x : Int64, P (some (.inr (.inl x)), h)) (l0 : px_lg lv 0 = some (.inr (.inr (some 196)))) : t_X d 244 0 lv [] h P := by
  refine t_0 qy_0 rfl rfl ?_
  refine t_2 qy_1 rfl (w := (px_s2 lv 1 (.inr (.inl (Int64.ofNat 0))), [])) rfl ?_
  replace l0 : px_lg (px_s2 lv 1 (.inr (.inl (Int64.ofNat 0)))) 0 = some (.inr (.inr (some 196))) := s2_ne (by decide) (fun _ => rfl) l0
  have l1 : px_lg (px_s2 lv 1 (.inr (.inl (Int64.ofNat 0)))) 1 = some (.inr (.inl (Int64.ofNat 0))) := s2_eq
  generalize px_s2 lv 1 (.inr (.inl (Int64.ofNat 0))) = lv1 at l0 l1 ⊢
  show t_X d 244 2 lv1 [] h P
  refine t_0 qy_2 rfl rfl ?_
  refine t_2 qy_3 rfl (w := (px_s1 lv1 3 (.inl (Int32.ofInt (0))), [])) rfl ?_
  replace l0 : px_lg (px_s1 lv1 3 (.inl (Int32.ofInt (0)))) 0 = some (.inr (.inr (some 196))) := s1_ne (by decide) (fun _ => rfl) l0
  replace l1 : px_lg (px_s1 lv1 3 (.inl (Int32.ofInt (0)))) 1 = some (.inr (.inl (Int64.ofNat 0))) := s1_ne (by decide) (fun z => absurd z (by decide)) l1
  have l3 : px_lg (px_s1 lv1 3 (.inl (Int32.ofInt (0)))) 3 = some (.inl (Int32.ofInt (0))) := s1_eq
  generalize px_s1 lv1 3 (.inl (Int32.ofInt (0))) = lv2 at l0 l1 l3 ⊢
  show t_X d 244 4 lv2 [] h P
  exact sb_out hd hG hrow hP 8 0 _ _ rfl l0 l1 l3
