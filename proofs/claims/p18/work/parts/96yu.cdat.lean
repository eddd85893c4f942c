/-! the slides' data: telling, copying one in the class (printed by wip/e2/x11.py) -/
theorem ucp4_0 : xe_look (xc 73) 0 = some (.aload_n 1, 1, 0, 0, 0) := by decide +kernel
theorem ucp4_1 : xe_look (xc 73) 1 = some (.getfield 15, 3, 7, 1, 910) := by decide +kernel
theorem ucp4_4 : xe_look (xc 73) 4 = some (.iconst 0, 1, 0, 0, 0) := by decide +kernel
theorem ucp4_5 : xe_look (xc 73) 5 = some (.aload_n 0, 1, 0, 0, 0) := by decide +kernel
theorem ucp4_6 : xe_look (xc 73) 6 = some (.getfield 15, 3, 7, 1, 910) := by decide +kernel
theorem ucp4_9 : xe_look (xc 73) 9 = some (.iconst 0, 1, 0, 0, 0) := by decide +kernel
theorem ucp4_10 : xe_look (xc 73) 10 = some (.bipush 25, 2, 0, 0, 0) := by decide +kernel
theorem ucp4_12 : xe_look (xc 73) 12 = some (.invokestatic 22, 3, 5, 0, 911) := by decide +kernel
theorem ucp4_15 : xe_look (xc 73) 15 = some (.aload_n 0, 1, 0, 0, 0) := by decide +kernel
theorem ucp4_16 : xe_look (xc 73) 16 = some (.aload_n 1, 1, 0, 0, 0) := by decide +kernel
theorem ucp4_17 : xe_look (xc 73) 17 = some (.getfield 28, 3, 7, 2, 912) := by decide +kernel
theorem ucp4_20 : xe_look (xc 73) 20 = some (.putfield 28, 3, 7, 2, 912) := by decide +kernel
theorem ucp4_23 : xe_look (xc 73) 23 = some (.aload_n 0, 1, 0, 0, 0) := by decide +kernel
theorem ucp4_24 : xe_look (xc 73) 24 = some (.aload_n 1, 1, 0, 0, 0) := by decide +kernel
theorem ucp4_25 : xe_look (xc 73) 25 = some (.getfield 32, 3, 7, 3, 913) := by decide +kernel
theorem ucp4_28 : xe_look (xc 73) 28 = some (.putfield 32, 3, 7, 3, 913) := by decide +kernel
theorem ucp4_31 : xe_look (xc 73) 31 = some (.aload_n 0, 1, 0, 0, 0) := by decide +kernel
theorem ucp4_32 : xe_look (xc 73) 32 = some (.aload_n 1, 1, 0, 0, 0) := by decide +kernel
theorem ucp4_33 : xe_look (xc 73) 33 = some (.getfield 35, 3, 7, 4, 914) := by decide +kernel
theorem ucp4_36 : xe_look (xc 73) 36 = some (.putfield 35, 3, 7, 4, 914) := by decide +kernel
theorem ucp4_39 : xe_look (xc 73) 39 = some (.aload_n 0, 1, 0, 0, 0) := by decide +kernel
theorem ucp4_40 : xe_look (xc 73) 40 = some (.aload_n 1, 1, 0, 0, 0) := by decide +kernel
theorem ucp4_41 : xe_look (xc 73) 41 = some (.getfield 38, 3, 7, 5, 915) := by decide +kernel
theorem ucp4_44 : xe_look (xc 73) 44 = some (.putfield 38, 3, 7, 5, 915) := by decide +kernel
theorem ucp4_47 : xe_look (xc 73) 47 = some (.aload_n 0, 1, 0, 0, 0) := by decide +kernel
theorem ucp4_48 : xe_look (xc 73) 48 = some (.aload_n 1, 1, 0, 0, 0) := by decide +kernel
theorem ucp4_49 : xe_look (xc 73) 49 = some (.getfield 41, 3, 7, 6, 916) := by decide +kernel
theorem ucp4_52 : xe_look (xc 73) 52 = some (.putfield 41, 3, 7, 6, 916) := by decide +kernel
theorem ucp4_55 : xe_look (xc 73) 55 = some (.aload_n 0, 1, 0, 0, 0) := by decide +kernel
theorem ucp4_56 : xe_look (xc 73) 56 = some (.aload_n 1, 1, 0, 0, 0) := by decide +kernel
theorem ucp4_57 : xe_look (xc 73) 57 = some (.getfield 44, 3, 7, 7, 917) := by decide +kernel
theorem ucp4_60 : xe_look (xc 73) 60 = some (.putfield 44, 3, 7, 7, 917) := by decide +kernel
theorem ucp4_63 : xe_look (xc 73) 63 = some (.aload_n 0, 1, 0, 0, 0) := by decide +kernel
theorem ucp4_64 : xe_look (xc 73) 64 = some (.aload_n 1, 1, 0, 0, 0) := by decide +kernel
theorem ucp4_65 : xe_look (xc 73) 65 = some (.getfield 47, 3, 7, 8, 918) := by decide +kernel
theorem ucp4_68 : xe_look (xc 73) 68 = some (.putfield 47, 3, 7, 8, 918) := by decide +kernel
theorem ucp4_71 : xe_look (xc 73) 71 = some (.aload_n 0, 1, 0, 0, 0) := by decide +kernel
theorem ucp4_72 : xe_look (xc 73) 72 = some (.aload_n 1, 1, 0, 0, 0) := by decide +kernel
theorem ucp4_73 : xe_look (xc 73) 73 = some (.getfield 19, 3, 7, 9, 919) := by decide +kernel
theorem ucp4_76 : xe_look (xc 73) 76 = some (.putfield 19, 3, 7, 9, 919) := by decide +kernel
theorem ucp4_79 : xe_look (xc 73) 79 = some (.return_, 1, 0, 0, 0) := by decide +kernel
theorem ucp78_0 : xe_look (xc 73) 0 = some (.aload_n 1, 1, 0, 0, 0) := by decide +kernel
theorem ucp78_1 : xe_look (xc 73) 1 = some (.getfield 15, 3, 7, 1, 910) := by decide +kernel
theorem ucp78_4 : xe_look (xc 73) 4 = some (.iconst 0, 1, 0, 0, 0) := by decide +kernel
theorem ucp78_5 : xe_look (xc 73) 5 = some (.aload_n 0, 1, 0, 0, 0) := by decide +kernel
theorem ucp78_6 : xe_look (xc 73) 6 = some (.getfield 15, 3, 7, 1, 910) := by decide +kernel
theorem ucp78_9 : xe_look (xc 73) 9 = some (.iconst 0, 1, 0, 0, 0) := by decide +kernel
theorem ucp78_10 : xe_look (xc 73) 10 = some (.bipush 25, 2, 0, 0, 0) := by decide +kernel
theorem ucp78_12 : xe_look (xc 73) 12 = some (.invokestatic 22, 3, 5, 0, 911) := by decide +kernel
theorem ucp78_15 : xe_look (xc 73) 15 = some (.aload_n 0, 1, 0, 0, 0) := by decide +kernel
theorem ucp78_16 : xe_look (xc 73) 16 = some (.aload_n 1, 1, 0, 0, 0) := by decide +kernel
theorem ucp78_17 : xe_look (xc 73) 17 = some (.getfield 28, 3, 7, 2, 912) := by decide +kernel
theorem ucp78_20 : xe_look (xc 73) 20 = some (.putfield 28, 3, 7, 2, 912) := by decide +kernel
theorem ucp78_23 : xe_look (xc 73) 23 = some (.aload_n 0, 1, 0, 0, 0) := by decide +kernel
theorem ucp78_24 : xe_look (xc 73) 24 = some (.aload_n 1, 1, 0, 0, 0) := by decide +kernel
theorem ucp78_25 : xe_look (xc 73) 25 = some (.getfield 32, 3, 7, 3, 913) := by decide +kernel
theorem ucp78_28 : xe_look (xc 73) 28 = some (.putfield 32, 3, 7, 3, 913) := by decide +kernel
theorem ucp78_31 : xe_look (xc 73) 31 = some (.aload_n 0, 1, 0, 0, 0) := by decide +kernel
theorem ucp78_32 : xe_look (xc 73) 32 = some (.aload_n 1, 1, 0, 0, 0) := by decide +kernel
theorem ucp78_33 : xe_look (xc 73) 33 = some (.getfield 35, 3, 7, 4, 914) := by decide +kernel
theorem ucp78_36 : xe_look (xc 73) 36 = some (.putfield 35, 3, 7, 4, 914) := by decide +kernel
theorem ucp78_39 : xe_look (xc 73) 39 = some (.aload_n 0, 1, 0, 0, 0) := by decide +kernel
theorem ucp78_40 : xe_look (xc 73) 40 = some (.aload_n 1, 1, 0, 0, 0) := by decide +kernel
theorem ucp78_41 : xe_look (xc 73) 41 = some (.getfield 38, 3, 7, 5, 915) := by decide +kernel
theorem ucp78_44 : xe_look (xc 73) 44 = some (.putfield 38, 3, 7, 5, 915) := by decide +kernel
theorem ucp78_47 : xe_look (xc 73) 47 = some (.aload_n 0, 1, 0, 0, 0) := by decide +kernel
theorem ucp78_48 : xe_look (xc 73) 48 = some (.aload_n 1, 1, 0, 0, 0) := by decide +kernel
theorem ucp78_49 : xe_look (xc 73) 49 = some (.getfield 41, 3, 7, 6, 916) := by decide +kernel
theorem ucp78_52 : xe_look (xc 73) 52 = some (.putfield 41, 3, 7, 6, 916) := by decide +kernel
theorem ucp78_55 : xe_look (xc 73) 55 = some (.aload_n 0, 1, 0, 0, 0) := by decide +kernel
theorem ucp78_56 : xe_look (xc 73) 56 = some (.aload_n 1, 1, 0, 0, 0) := by decide +kernel
theorem ucp78_57 : xe_look (xc 73) 57 = some (.getfield 44, 3, 7, 7, 917) := by decide +kernel
theorem ucp78_60 : xe_look (xc 73) 60 = some (.putfield 44, 3, 7, 7, 917) := by decide +kernel
theorem ucp78_63 : xe_look (xc 73) 63 = some (.aload_n 0, 1, 0, 0, 0) := by decide +kernel
theorem ucp78_64 : xe_look (xc 73) 64 = some (.aload_n 1, 1, 0, 0, 0) := by decide +kernel
theorem ucp78_65 : xe_look (xc 73) 65 = some (.getfield 47, 3, 7, 8, 918) := by decide +kernel
theorem ucp78_68 : xe_look (xc 73) 68 = some (.putfield 47, 3, 7, 8, 918) := by decide +kernel
theorem ucp78_71 : xe_look (xc 73) 71 = some (.aload_n 0, 1, 0, 0, 0) := by decide +kernel
theorem ucp78_72 : xe_look (xc 73) 72 = some (.aload_n 1, 1, 0, 0, 0) := by decide +kernel
theorem ucp78_73 : xe_look (xc 73) 73 = some (.getfield 19, 3, 7, 9, 919) := by decide +kernel
theorem ucp78_76 : xe_look (xc 73) 76 = some (.putfield 19, 3, 7, 9, 919) := by decide +kernel
theorem ucp78_79 : xe_look (xc 73) 79 = some (.return_, 1, 0, 0, 0) := by decide +kernel
theorem utl_0 : xe_look (xc 78) 0 = some (.aload_n 1, 1, 0, 0, 0) := by decide +kernel
theorem utl_1 : xe_look (xc 78) 1 = some (.iconst 0, 1, 0, 0, 0) := by decide +kernel
theorem utl_2 : xe_look (xc 78) 2 = some (.aload_n 0, 1, 0, 0, 0) := by decide +kernel
theorem utl_3 : xe_look (xc 78) 3 = some (.getfield 15, 3, 7, 1, 910) := by decide +kernel
theorem utl_6 : xe_look (xc 78) 6 = some (.iconst 0, 1, 0, 0, 0) := by decide +kernel
theorem utl_7 : xe_look (xc 78) 7 = some (.bipush 25, 2, 0, 0, 0) := by decide +kernel
theorem utl_9 : xe_look (xc 78) 9 = some (.invokestatic 22, 3, 5, 0, 911) := by decide +kernel
theorem utl_12 : xe_look (xc 78) 12 = some (.aload_n 0, 1, 0, 0, 0) := by decide +kernel
theorem utl_13 : xe_look (xc 78) 13 = some (.iconst 1, 1, 0, 0, 0) := by decide +kernel
theorem utl_14 : xe_look (xc 78) 14 = some (.putfield 28, 3, 7, 2, 912) := by decide +kernel
theorem utl_17 : xe_look (xc 78) 17 = some (.aload_n 0, 1, 0, 0, 0) := by decide +kernel
theorem utl_18 : xe_look (xc 78) 18 = some (.iload_n 2, 1, 0, 0, 0) := by decide +kernel
theorem utl_19 : xe_look (xc 78) 19 = some (.putfield 32, 3, 7, 3, 913) := by decide +kernel
theorem utl_22 : xe_look (xc 78) 22 = some (.aload_n 0, 1, 0, 0, 0) := by decide +kernel
theorem utl_23 : xe_look (xc 78) 23 = some (.iload_n 3, 1, 0, 0, 0) := by decide +kernel
theorem utl_24 : xe_look (xc 78) 24 = some (.putfield 35, 3, 7, 4, 914) := by decide +kernel
theorem utl_27 : xe_look (xc 78) 27 = some (.aload_n 0, 1, 0, 0, 0) := by decide +kernel
theorem utl_28 : xe_look (xc 78) 28 = some (.iload 4, 2, 0, 0, 0) := by decide +kernel
theorem utl_30 : xe_look (xc 78) 30 = some (.putfield 38, 3, 7, 5, 915) := by decide +kernel
theorem utl_33 : xe_look (xc 78) 33 = some (.aload_n 0, 1, 0, 0, 0) := by decide +kernel
theorem utl_34 : xe_look (xc 78) 34 = some (.iconst 0, 1, 0, 0, 0) := by decide +kernel
theorem utl_35 : xe_look (xc 78) 35 = some (.putfield 41, 3, 7, 6, 916) := by decide +kernel
theorem utl_38 : xe_look (xc 78) 38 = some (.aload_n 0, 1, 0, 0, 0) := by decide +kernel
theorem utl_39 : xe_look (xc 78) 39 = some (.iconst 0, 1, 0, 0, 0) := by decide +kernel
theorem utl_40 : xe_look (xc 78) 40 = some (.putfield 44, 3, 7, 7, 917) := by decide +kernel
theorem utl_43 : xe_look (xc 78) 43 = some (.aload_n 0, 1, 0, 0, 0) := by decide +kernel
theorem utl_44 : xe_look (xc 78) 44 = some (.iconst 0, 1, 0, 0, 0) := by decide +kernel
theorem utl_45 : xe_look (xc 78) 45 = some (.putfield 47, 3, 7, 8, 918) := by decide +kernel
def tk (m : Nat) : List (Nat × Nat) := [(4 + 2 * m, 2), (4 + 2 * m, 3), (4 + 2 * m, 4), (4 + 2 * m, 5), (4 + 2 * m, 6), (4 + 2 * m, 7), (4 + 2 * m, 8)]
def ta (m : Nat) : List Nat := [5 + 2 * m]
abbrev tE (m : Nat) (g0 g : pH) (a b c d e f h : Int) (p : tC) : Prop := sE (tk m) (ta m) (WT m) g0 g [a, b, c, d, e, f, h] [p]
theorem ts_cp {ks : List (Nat × Nat)} {as : List Nat} {W : Nat} {g0 g : pH} {vs : List Int} {cs : List (Nat → Int)} {d μ pc : Nat} {lv : List (Nat × pv)} {r : List pv} {P : Option pv × pH → Prop} {n i y z a a0 na n0 : Nat} {e : Int} (hn : Nat.blt n cs.length = true) (hkn : as.getD n 0 = a) (hd : sEa as a n = true) (hq : xe_look (xc μ) pc = some (.invokestatic i, 3, 5, y, z)) (h1 : 1 ≤ d) (hr : px_sum r ≤ 8) (hS : sE ks as W g0 g vs cs) (ha : eL[a]? = some (1, na)) (ha0 : eL[a0]? = some (1, n0)) (hm : Nat.ble na 10000 = true) (he : 0 ≤ e ∧ e ≤ na ∧ e ≤ n0) (hW : W.testBit (cn a) = true) (hg : eG (cn a0) = eG (cn a)) (hP : ∀ g1 : pH, sE ks as W g0 g1 vs (cs.set n (fun k : Nat => if (k : Int) < e then fA g a0 k else fA g a k)) → t_X d μ (pc + 3) lv r g1 P) : t_X d μ pc lv (oI e :: oI 0 :: pvR a :: oI 0 :: pvR a0 :: r) g P :=
  tw_cp hq h1 hr (S_J hS) ha ha0 hm he hW hg (fun g1 J1 e1 e2 e3 => hP g1 ⟨J1, fun i hi => by
    have := hS.2.1 i hi
    unfold cF at this ⊢
    rw [e3]
    exact this, fun i hi => by
    rw [ls_set (Nat.le_of_ble_eq_true hn)]
    by_cases q : i = n
    · subst q
      rw [if_pos rfl, hkn]
      exact e1
    · rw [if_neg q, e2 _ (sEa_o hd hi q)]
      exact hS.2.2 i hi⟩)
theorem ts_z0 {ks : List (Nat × Nat)} {as : List Nat} {W : Nat} {g0 g : pH} {vs : List Int} {cs : List (Nat → Int)} {d μ pc : Nat} {lv : List (Nat × pv)} {r : List pv} {P : Option pv × pH → Prop} {i x y z k : Nat} {e lo hi : Int} (hd : sEf ks k y ks.length = true) (hq : xe_look (xc μ) pc = some (.putfield i, 3, x, y, z)) (ht : xk_ty x y = .boolean) (hk : eL[k]? = some (0, x)) (hS : sE ks as W g0 g vs cs) (hW : W.testBit (cn k + y) = true) (hg : eG (cn k + y) = (lo, hi, [])) (hr : -2147483648 ≤ lo ∧ hi ≤ 2147483647) (he : lo ≤ e ∧ e ≤ hi) (hb : e = 0 ∨ e = 1) (hP : ∀ g1 : pH, sE ks as W g0 g1 vs cs → t_X d μ (pc + 3) lv r g1 P) : t_X d μ pc lv (oI e :: pvR k :: r) g P :=
  tw_z hq hk ht (S_J hS) hW hg hr he hb (fun g1 hJ e1 => hP g1 (S_wf0 hS hd hJ e1))
theorem tl_h1 : ∀ m, m < 32 → (eG (cn (4 + 2 * m) + 1)).2.2 = [5 + 2 * m + 1] := by decide +kernel
theorem tl_r1 {m : Nat} (hm : m < 32) {d i : Nat} {lv : List (Nat × pv)} {r : List pv} {g : pH} (hG : g_I eG g) : px_push eL d none (.getfield i) 7 1 lv (pvR (4 + 2 * m) :: r) g = some (pvR (5 + 2 * m) :: r) := pget (el_s4 hm) (gI_r (r := 5 + 2 * m) hG (el_s4 hm) (Nat.le_of_ble_eq_true rfl) (y := 1) rfl (tl_h1 m hm))
theorem tl_a : ∀ m, m < 32 → eL[5 + 2 * m]? = some (1, 25) ∧ (WT m).testBit (cn (5 + 2 * m)) = true ∧ eG (cn 1) = eG (cn (5 + 2 * m)) ∧ WT m &&& eDX = 0 := by decide +kernel
theorem tl_x : eL[1]? = some (1, 260) := by decide +kernel
theorem tl_b (m : Nat) : sEa (ta m) (5 + 2 * m) 0 = true := by
  unfold sEa ta
  rw [List.all_eq_true]
  intro j hj
  have hj : j < 1 := List.mem_range.mp hj
  rw [show j = 0 by omega]
  rfl
theorem tl_f0 (m : Nat) : sEf (tk m) (4 + 2 * m) 2 0 = true := by
  unfold sEf tk
  rw [List.all_eq_true]
  intro j hj
  have hj : j < 7 := List.mem_range.mp hj
  rcases (show j = 0 ∨ j = 1 ∨ j = 2 ∨ j = 3 ∨ j = 4 ∨ j = 5 ∨ j = 6 by omega) with rfl | rfl | rfl | rfl | rfl | rfl | rfl <;> simp
theorem tl_w2 : ∀ m, m < 32 → (WT m).testBit (cn (4 + 2 * m) + 2) = true := by decide +kernel
theorem tl_g2 : ∀ m, m < 32 → eG (cn (4 + 2 * m) + 2) = (0, 1, []) := by decide +kernel
theorem tl_f1 (m : Nat) : sEf (tk m) (4 + 2 * m) 3 1 = true := by
  unfold sEf tk
  rw [List.all_eq_true]
  intro j hj
  have hj : j < 7 := List.mem_range.mp hj
  rcases (show j = 0 ∨ j = 1 ∨ j = 2 ∨ j = 3 ∨ j = 4 ∨ j = 5 ∨ j = 6 by omega) with rfl | rfl | rfl | rfl | rfl | rfl | rfl <;> simp
theorem tl_w3 : ∀ m, m < 32 → (WT m).testBit (cn (4 + 2 * m) + 3) = true := by decide +kernel
theorem tl_g3 : ∀ m, m < 32 → eG (cn (4 + 2 * m) + 3) = (0, 3, []) := by decide +kernel
theorem tl_f2 (m : Nat) : sEf (tk m) (4 + 2 * m) 4 2 = true := by
  unfold sEf tk
  rw [List.all_eq_true]
  intro j hj
  have hj : j < 7 := List.mem_range.mp hj
  rcases (show j = 0 ∨ j = 1 ∨ j = 2 ∨ j = 3 ∨ j = 4 ∨ j = 5 ∨ j = 6 by omega) with rfl | rfl | rfl | rfl | rfl | rfl | rfl <;> simp
theorem tl_w4 : ∀ m, m < 32 → (WT m).testBit (cn (4 + 2 * m) + 4) = true := by decide +kernel
theorem tl_g4 : ∀ m, m < 32 → eG (cn (4 + 2 * m) + 4) = (0, 3, []) := by decide +kernel
theorem tl_f3 (m : Nat) : sEf (tk m) (4 + 2 * m) 5 3 = true := by
  unfold sEf tk
  rw [List.all_eq_true]
  intro j hj
  have hj : j < 7 := List.mem_range.mp hj
  rcases (show j = 0 ∨ j = 1 ∨ j = 2 ∨ j = 3 ∨ j = 4 ∨ j = 5 ∨ j = 6 by omega) with rfl | rfl | rfl | rfl | rfl | rfl | rfl <;> simp
theorem tl_w5 : ∀ m, m < 32 → (WT m).testBit (cn (4 + 2 * m) + 5) = true := by decide +kernel
theorem tl_g5 : ∀ m, m < 32 → eG (cn (4 + 2 * m) + 5) = (0, 99, []) := by decide +kernel
theorem tl_f4 (m : Nat) : sEf (tk m) (4 + 2 * m) 6 4 = true := by
  unfold sEf tk
  rw [List.all_eq_true]
  intro j hj
  have hj : j < 7 := List.mem_range.mp hj
  rcases (show j = 0 ∨ j = 1 ∨ j = 2 ∨ j = 3 ∨ j = 4 ∨ j = 5 ∨ j = 6 by omega) with rfl | rfl | rfl | rfl | rfl | rfl | rfl <;> simp
theorem tl_w6 : ∀ m, m < 32 → (WT m).testBit (cn (4 + 2 * m) + 6) = true := by decide +kernel
theorem tl_g6 : ∀ m, m < 32 → eG (cn (4 + 2 * m) + 6) = (0, 99, []) := by decide +kernel
theorem tl_f5 (m : Nat) : sEf (tk m) (4 + 2 * m) 7 5 = true := by
  unfold sEf tk
  rw [List.all_eq_true]
  intro j hj
  have hj : j < 7 := List.mem_range.mp hj
  rcases (show j = 0 ∨ j = 1 ∨ j = 2 ∨ j = 3 ∨ j = 4 ∨ j = 5 ∨ j = 6 by omega) with rfl | rfl | rfl | rfl | rfl | rfl | rfl <;> simp
theorem tl_w7 : ∀ m, m < 32 → (WT m).testBit (cn (4 + 2 * m) + 7) = true := by decide +kernel
theorem tl_g7 : ∀ m, m < 32 → eG (cn (4 + 2 * m) + 7) = (0, 7, []) := by decide +kernel
theorem tl_f6 (m : Nat) : sEf (tk m) (4 + 2 * m) 8 6 = true := by
  unfold sEf tk
  rw [List.all_eq_true]
  intro j hj
  have hj : j < 7 := List.mem_range.mp hj
  rcases (show j = 0 ∨ j = 1 ∨ j = 2 ∨ j = 3 ∨ j = 4 ∨ j = 5 ∨ j = 6 by omega) with rfl | rfl | rfl | rfl | rfl | rfl | rfl <;> simp
theorem tl_w8 : ∀ m, m < 32 → (WT m).testBit (cn (4 + 2 * m) + 8) = true := by decide +kernel
theorem tl_g8 : ∀ m, m < 32 → eG (cn (4 + 2 * m) + 8) = (0, 255, []) := by decide +kernel
/-- from the alike loop on -/
def kTz (m : Nat) : eK := (78, (3, [(0, 2, (0, 100000, [5 + 2 * m]))], [(0, 1, 0, (0, 0, [])), (4 + 2 * m, 2, 0, (1, 1, []))], []), (0, []), 2 ^ (cn (4 + 2 * m) + 8), [(none, [], [])])
theorem eTz : (List.range 32).all (fun m => ex_mid eG eKT eDX 4000 (kTz m) (cT m) 48) = true := by decide +kernel
theorem eTz_at {m : Nat} (h : m < 32) : ex_mid eG eKT eDX 4000 (kTz m) (cT m) 48 = true := List.all_eq_true.mp eTz m (List.mem_range.mpr h)
theorem tz_m : ∀ m, m < 32 → 2 ^ (cn (4 + 2 * m) + 8) &&& WT m = 2 ^ (cn (4 + 2 * m) + 8) ∧ (2 ^ (cn (4 + 2 * m) + 8)).testBit (cn (4 + 2 * m) + 2) = false ∧ (2 ^ (cn (4 + 2 * m) + 8)).testBit (cn (4 + 2 * m) + 3) = false ∧ (2 ^ (cn (4 + 2 * m) + 8)).testBit (cn (4 + 2 * m) + 4) = false ∧ (2 ^ (cn (4 + 2 * m) + 8)).testBit (cn (4 + 2 * m) + 5) = false ∧ (2 ^ (cn (4 + 2 * m) + 8)).testBit (cn (4 + 2 * m) + 6) = false ∧ (2 ^ (cn (4 + 2 * m) + 8)).testBit (cn (5 + 2 * m)) = false := by decide +kernel
/-- slide j's data at D is what it was at S -/
def dC (h g : pH) (D S j : Nat) : Prop := (cF g (D + 2 * j) 3 = cF h (S + 2 * j) 3 ∧ cF g (D + 2 * j) 4 = cF h (S + 2 * j) 4 ∧ cF g (D + 2 * j) 5 = cF h (S + 2 * j) 5 ∧ cF g (D + 2 * j) 6 = cF h (S + 2 * j) 6) ∧ ∀ k : Nat, k < 25 → fA g (D + 1 + 2 * j) k = fA h (S + 1 + 2 * j) k
def tk4 (K : Nat) : List (Nat × Nat) := [(K, 3), (K, 4), (K, 5), (K, 6)]
theorem tcf_2 (K : Nat) : sEf (tk4 K) K 2 4 = true := by
  unfold sEf tk4
  rw [List.all_eq_true]
  intro j hj
  have hj : j < 4 := List.mem_range.mp hj
  rcases (show j = 0 ∨ j = 1 ∨ j = 2 ∨ j = 3 by omega) with rfl | rfl | rfl | rfl <;> simp
theorem tcg4_2 : ∀ m, m < 32 → eG (cn (4 + 2 * m) + 2) = (0, 1, []) := by decide +kernel
theorem tcn4_2 : ∀ m, m < 32 → (W73 78 m).testBit (cn (4 + 2 * m) + 2) = false := by decide +kernel
theorem tcw4_2 : ∀ m, m < 32 → (W73 4 m).testBit (cn (4 + 2 * m) + 2) = true := by decide +kernel
theorem tcg78_2 : ∀ m, m < 32 → eG (cn (78 + 2 * m) + 2) = (0, 1, []) := by decide +kernel
theorem tcn78_2 : ∀ m, m < 32 → (W73 4 m).testBit (cn (78 + 2 * m) + 2) = false := by decide +kernel
theorem tcw78_2 : ∀ m, m < 32 → (W73 78 m).testBit (cn (78 + 2 * m) + 2) = true := by decide +kernel
theorem tcf_3 (K : Nat) : sEf (tk4 K) K 3 0 = true := by
  unfold sEf tk4
  rw [List.all_eq_true]
  intro j hj
  have hj : j < 4 := List.mem_range.mp hj
  rcases (show j = 0 ∨ j = 1 ∨ j = 2 ∨ j = 3 by omega) with rfl | rfl | rfl | rfl <;> simp
theorem tcg4_3 : ∀ m, m < 32 → eG (cn (4 + 2 * m) + 3) = (0, 3, []) := by decide +kernel
theorem tcn4_3 : ∀ m, m < 32 → (W73 78 m).testBit (cn (4 + 2 * m) + 3) = false := by decide +kernel
theorem tcw4_3 : ∀ m, m < 32 → (W73 4 m).testBit (cn (4 + 2 * m) + 3) = true := by decide +kernel
theorem tcg78_3 : ∀ m, m < 32 → eG (cn (78 + 2 * m) + 3) = (0, 3, []) := by decide +kernel
theorem tcn78_3 : ∀ m, m < 32 → (W73 4 m).testBit (cn (78 + 2 * m) + 3) = false := by decide +kernel
theorem tcw78_3 : ∀ m, m < 32 → (W73 78 m).testBit (cn (78 + 2 * m) + 3) = true := by decide +kernel
theorem tcf_4 (K : Nat) : sEf (tk4 K) K 4 1 = true := by
  unfold sEf tk4
  rw [List.all_eq_true]
  intro j hj
  have hj : j < 4 := List.mem_range.mp hj
  rcases (show j = 0 ∨ j = 1 ∨ j = 2 ∨ j = 3 by omega) with rfl | rfl | rfl | rfl <;> simp
theorem tcg4_4 : ∀ m, m < 32 → eG (cn (4 + 2 * m) + 4) = (0, 3, []) := by decide +kernel
theorem tcn4_4 : ∀ m, m < 32 → (W73 78 m).testBit (cn (4 + 2 * m) + 4) = false := by decide +kernel
theorem tcw4_4 : ∀ m, m < 32 → (W73 4 m).testBit (cn (4 + 2 * m) + 4) = true := by decide +kernel
theorem tcg78_4 : ∀ m, m < 32 → eG (cn (78 + 2 * m) + 4) = (0, 3, []) := by decide +kernel
theorem tcn78_4 : ∀ m, m < 32 → (W73 4 m).testBit (cn (78 + 2 * m) + 4) = false := by decide +kernel
theorem tcw78_4 : ∀ m, m < 32 → (W73 78 m).testBit (cn (78 + 2 * m) + 4) = true := by decide +kernel
theorem tcf_5 (K : Nat) : sEf (tk4 K) K 5 2 = true := by
  unfold sEf tk4
  rw [List.all_eq_true]
  intro j hj
  have hj : j < 4 := List.mem_range.mp hj
  rcases (show j = 0 ∨ j = 1 ∨ j = 2 ∨ j = 3 by omega) with rfl | rfl | rfl | rfl <;> simp
theorem tcg4_5 : ∀ m, m < 32 → eG (cn (4 + 2 * m) + 5) = (0, 99, []) := by decide +kernel
theorem tcn4_5 : ∀ m, m < 32 → (W73 78 m).testBit (cn (4 + 2 * m) + 5) = false := by decide +kernel
theorem tcw4_5 : ∀ m, m < 32 → (W73 4 m).testBit (cn (4 + 2 * m) + 5) = true := by decide +kernel
theorem tcg78_5 : ∀ m, m < 32 → eG (cn (78 + 2 * m) + 5) = (0, 99, []) := by decide +kernel
theorem tcn78_5 : ∀ m, m < 32 → (W73 4 m).testBit (cn (78 + 2 * m) + 5) = false := by decide +kernel
theorem tcw78_5 : ∀ m, m < 32 → (W73 78 m).testBit (cn (78 + 2 * m) + 5) = true := by decide +kernel
theorem tcf_6 (K : Nat) : sEf (tk4 K) K 6 3 = true := by
  unfold sEf tk4
  rw [List.all_eq_true]
  intro j hj
  have hj : j < 4 := List.mem_range.mp hj
  rcases (show j = 0 ∨ j = 1 ∨ j = 2 ∨ j = 3 by omega) with rfl | rfl | rfl | rfl <;> simp
theorem tcg4_6 : ∀ m, m < 32 → eG (cn (4 + 2 * m) + 6) = (0, 99, []) := by decide +kernel
theorem tcn4_6 : ∀ m, m < 32 → (W73 78 m).testBit (cn (4 + 2 * m) + 6) = false := by decide +kernel
theorem tcw4_6 : ∀ m, m < 32 → (W73 4 m).testBit (cn (4 + 2 * m) + 6) = true := by decide +kernel
theorem tcg78_6 : ∀ m, m < 32 → eG (cn (78 + 2 * m) + 6) = (0, 99, []) := by decide +kernel
theorem tcn78_6 : ∀ m, m < 32 → (W73 4 m).testBit (cn (78 + 2 * m) + 6) = false := by decide +kernel
theorem tcw78_6 : ∀ m, m < 32 → (W73 78 m).testBit (cn (78 + 2 * m) + 6) = true := by decide +kernel
theorem tcf_7 (K : Nat) : sEf (tk4 K) K 7 4 = true := by
  unfold sEf tk4
  rw [List.all_eq_true]
  intro j hj
  have hj : j < 4 := List.mem_range.mp hj
  rcases (show j = 0 ∨ j = 1 ∨ j = 2 ∨ j = 3 by omega) with rfl | rfl | rfl | rfl <;> simp
theorem tcg4_7 : ∀ m, m < 32 → eG (cn (4 + 2 * m) + 7) = (0, 7, []) := by decide +kernel
theorem tcn4_7 : ∀ m, m < 32 → (W73 78 m).testBit (cn (4 + 2 * m) + 7) = false := by decide +kernel
theorem tcw4_7 : ∀ m, m < 32 → (W73 4 m).testBit (cn (4 + 2 * m) + 7) = true := by decide +kernel
theorem tcg78_7 : ∀ m, m < 32 → eG (cn (78 + 2 * m) + 7) = (0, 7, []) := by decide +kernel
theorem tcn78_7 : ∀ m, m < 32 → (W73 4 m).testBit (cn (78 + 2 * m) + 7) = false := by decide +kernel
theorem tcw78_7 : ∀ m, m < 32 → (W73 78 m).testBit (cn (78 + 2 * m) + 7) = true := by decide +kernel
theorem tcf_8 (K : Nat) : sEf (tk4 K) K 8 4 = true := by
  unfold sEf tk4
  rw [List.all_eq_true]
  intro j hj
  have hj : j < 4 := List.mem_range.mp hj
  rcases (show j = 0 ∨ j = 1 ∨ j = 2 ∨ j = 3 by omega) with rfl | rfl | rfl | rfl <;> simp
theorem tcg4_8 : ∀ m, m < 32 → eG (cn (4 + 2 * m) + 8) = (0, 255, []) := by decide +kernel
theorem tcn4_8 : ∀ m, m < 32 → (W73 78 m).testBit (cn (4 + 2 * m) + 8) = false := by decide +kernel
theorem tcw4_8 : ∀ m, m < 32 → (W73 4 m).testBit (cn (4 + 2 * m) + 8) = true := by decide +kernel
theorem tcg78_8 : ∀ m, m < 32 → eG (cn (78 + 2 * m) + 8) = (0, 255, []) := by decide +kernel
theorem tcn78_8 : ∀ m, m < 32 → (W73 4 m).testBit (cn (78 + 2 * m) + 8) = false := by decide +kernel
theorem tcw78_8 : ∀ m, m < 32 → (W73 78 m).testBit (cn (78 + 2 * m) + 8) = true := by decide +kernel
theorem tcf_9 (K : Nat) : sEf (tk4 K) K 9 4 = true := by
  unfold sEf tk4
  rw [List.all_eq_true]
  intro j hj
  have hj : j < 4 := List.mem_range.mp hj
  rcases (show j = 0 ∨ j = 1 ∨ j = 2 ∨ j = 3 by omega) with rfl | rfl | rfl | rfl <;> simp
theorem tcg4_9 : ∀ m, m < 32 → eG (cn (4 + 2 * m) + 9) = ((-1), 3, []) := by decide +kernel
theorem tcn4_9 : ∀ m, m < 32 → (W73 78 m).testBit (cn (4 + 2 * m) + 9) = false := by decide +kernel
theorem tcw4_9 : ∀ m, m < 32 → (W73 4 m).testBit (cn (4 + 2 * m) + 9) = true := by decide +kernel
theorem tcg78_9 : ∀ m, m < 32 → eG (cn (78 + 2 * m) + 9) = ((-1), 3, []) := by decide +kernel
theorem tcn78_9 : ∀ m, m < 32 → (W73 4 m).testBit (cn (78 + 2 * m) + 9) = false := by decide +kernel
theorem tcw78_9 : ∀ m, m < 32 → (W73 78 m).testBit (cn (78 + 2 * m) + 9) = true := by decide +kernel
theorem tc_h4 : ∀ m, m < 32 → (eG (cn (4 + 2 * m) + 1)).2.2 = [5 + 2 * m + 1] := by decide +kernel
theorem tc_r4 {m : Nat} (hm : m < 32) {d i : Nat} {lv : List (Nat × pv)} {r : List pv} {g : pH} (hG : g_I eG g) : px_push eL d none (.getfield i) 7 1 lv (pvR (4 + 2 * m) :: r) g = some (pvR (5 + 2 * m) :: r) := pget (el_s4 hm) (gI_r (r := 5 + 2 * m) hG (el_s4 hm) (Nat.le_of_ble_eq_true rfl) (y := 1) rfl (tc_h4 m hm))
theorem tc_h78 : ∀ m, m < 32 → (eG (cn (78 + 2 * m) + 1)).2.2 = [79 + 2 * m + 1] := by decide +kernel
theorem tc_r78 {m : Nat} (hm : m < 32) {d i : Nat} {lv : List (Nat × pv)} {r : List pv} {g : pH} (hG : g_I eG g) : px_push eL d none (.getfield i) 7 1 lv (pvR (78 + 2 * m) :: r) g = some (pvR (79 + 2 * m) :: r) := pget (el_s78 hm) (gI_r (r := 79 + 2 * m) hG (el_s78 hm) (Nat.le_of_ble_eq_true rfl) (y := 1) rfl (tc_h78 m hm))
theorem tc_a : ∀ m, m < 32 → (eL[5 + 2 * m]? = some (1, 25) ∧ eL[79 + 2 * m]? = some (1, 25)) ∧ ((W73 78 m).testBit (cn (79 + 2 * m)) = true ∧ (W73 4 m).testBit (cn (5 + 2 * m)) = true) ∧ eG (cn (5 + 2 * m)) = eG (cn (79 + 2 * m)) ∧ W73 78 m &&& eDX = 0 ∧ W73 4 m &&& eDX = 0 := by decide +kernel
theorem tc_b (a : Nat) : sEa [a] a 0 = true := by
  unfold sEa
  rw [List.all_eq_true]
  intro j hj
  have hj : j < 1 := List.mem_range.mp hj
  rw [show j = 0 by omega]
  rfl
set_option maxHeartbeats 2000000 in
theorem utl_run {m : Nat} (hm : m < 32) {d : Nat} (hd : 4 ≤ d) (hd2 : d ≤ 1000000) {g0 : pH} (hG : g_I eG g0) (hx : xL g0) (h01 : cF g0 0 1 = 0) {a b c : Int} (ha : 0 ≤ a ∧ a ≤ 3) (hb : 0 ≤ b ∧ b ≤ 3) (hc : 0 ≤ c ∧ c ≤ 99) {P : Option pv × pH → Prop} (hP : ∀ g1 : pH, g_I eG g1 → xL g1 → f_M (WT m) g0 g1 → cF g1 (4 + 2 * m) 2 = 1 → cF g1 (4 + 2 * m) 3 = a → cF g1 (4 + 2 * m) 4 = b → cF g1 (4 + 2 * m) 5 = c → cF g1 (4 + 2 * m) 6 = 0 → (∀ j : Nat, j < 25 → fA g1 (5 + 2 * m) j = fA g0 1 j) → P (none, g1)) {lv : List (Nat × pv)} (l0 : px_lg lv 0 = some (pvR (4 + 2 * m))) (l1 : px_lg lv 1 = some (pvR 1)) (l2 : px_lg lv 2 = some (oI a)) (l3 : px_lg lv 3 = some (oI b)) (l4 : px_lg lv 4 = some (oI c)) : t_X d 78 0 lv [] g0 P := by
  have hS : tE m g0 g0 (cF g0 (4 + 2 * m) 2) (cF g0 (4 + 2 * m) 3) (cF g0 (4 + 2 * m) 4) (cF g0 (4 + 2 * m) 5) (cF g0 (4 + 2 * m) 6) (cF g0 (4 + 2 * m) 7) (cF g0 (4 + 2 * m) 8) (fA g0 (5 + 2 * m)) := S_0 hG
  generalize cF g0 (4 + 2 * m) 2 = v0, cF g0 (4 + 2 * m) 3 = v1, cF g0 (4 + 2 * m) 4 = v2, cF g0 (4 + 2 * m) 5 = v3, cF g0 (4 + 2 * m) 6 = v4, cF g0 (4 + 2 * m) 7 = v5, cF g0 (4 + 2 * m) 8 = v6 at hS
  obtain ⟨p0, hp0⟩ : ∃ p0 : tC, p0 = fA g0 (5 + 2 * m) := ⟨_, rfl⟩
  rw [← hp0] at hS
  refine t_0 utl_0 rfl (ld_a l1) ?_
  refine t_0 utl_1 rfl rfl ?_
  refine t_0 utl_2 rfl (ld_a l0) ?_
  refine t_0 utl_3 rfl (tl_r1 hm (S_J hS).1) ?_
  show t_X d 78 6 lv [pvR (5 + 2 * m), oI 0, pvR 1] g0 P
  refine t_0 utl_6 rfl rfl ?_
  refine t_0 utl_7 rfl (pq_b (by decide)) ?_
  refine ts_cp (n := 0) rfl rfl (tl_b m) utl_9 (by omega) (Nat.le_of_ble_eq_true rfl) hS (tl_a m hm).1 tl_x rfl ⟨by omega, by omega, by omega⟩ (tl_a m hm).2.1 (tl_a m hm).2.2.1 (fun g1 hS1 => ?_)
  replace hS1 : tE m g0 g1 v0 v1 v2 v3 v4 v5 v6 (fun k : Nat => if (k : Int) < 25 then fA g0 1 k else fA g0 (5 + 2 * m) k) := hS1
  show t_X d 78 12 lv [] g1 P
  refine t_0 utl_12 rfl (ld_a l0) ?_
  refine t_0 utl_13 rfl rfl ?_
  refine ts_z (n := 0) rfl rfl (tl_f0 m) utl_14 rfl (el_s4 hm) hS1 (tl_w2 m hm) (tl_g2 m hm) (by decide) ⟨by omega, by omega⟩ (by omega) (fun g2 hS2 => ?_)
  replace hS2 : tE m g0 g2 1 v1 v2 v3 v4 v5 v6 (fun k : Nat => if (k : Int) < 25 then fA g0 1 k else fA g0 (5 + 2 * m) k) := hS2
  show t_X d 78 17 lv [] g2 P
  refine t_0 utl_17 rfl (ld_a l0) ?_
  refine t_0 utl_18 rfl (ld_i l2) ?_
  refine ts_f (n := 1) rfl rfl (tl_f1 m) utl_19 rfl (el_s4 hm) hS2 (tl_w3 m hm) (tl_g3 m hm) (by decide) ⟨by omega, by omega⟩ (fun g3 hS3 => ?_)
  replace hS3 : tE m g0 g3 1 a v2 v3 v4 v5 v6 (fun k : Nat => if (k : Int) < 25 then fA g0 1 k else fA g0 (5 + 2 * m) k) := hS3
  show t_X d 78 22 lv [] g3 P
  refine t_0 utl_22 rfl (ld_a l0) ?_
  refine t_0 utl_23 rfl (ld_i l3) ?_
  refine ts_f (n := 2) rfl rfl (tl_f2 m) utl_24 rfl (el_s4 hm) hS3 (tl_w4 m hm) (tl_g4 m hm) (by decide) ⟨by omega, by omega⟩ (fun g4 hS4 => ?_)
  replace hS4 : tE m g0 g4 1 a b v3 v4 v5 v6 (fun k : Nat => if (k : Int) < 25 then fA g0 1 k else fA g0 (5 + 2 * m) k) := hS4
  show t_X d 78 27 lv [] g4 P
  refine t_0 utl_27 rfl (ld_a l0) ?_
  refine t_0 utl_28 rfl (ld_i l4) ?_
  refine ts_f (n := 3) rfl rfl (tl_f3 m) utl_30 rfl (el_s4 hm) hS4 (tl_w5 m hm) (tl_g5 m hm) (by decide) ⟨by omega, by omega⟩ (fun g5 hS5 => ?_)
  replace hS5 : tE m g0 g5 1 a b c v4 v5 v6 (fun k : Nat => if (k : Int) < 25 then fA g0 1 k else fA g0 (5 + 2 * m) k) := hS5
  show t_X d 78 33 lv [] g5 P
  refine t_0 utl_33 rfl (ld_a l0) ?_
  refine t_0 utl_34 rfl rfl ?_
  refine ts_f (n := 4) rfl rfl (tl_f4 m) utl_35 rfl (el_s4 hm) hS5 (tl_w6 m hm) (tl_g6 m hm) (by decide) ⟨by omega, by omega⟩ (fun g6 hS6 => ?_)
  replace hS6 : tE m g0 g6 1 a b c 0 v5 v6 (fun k : Nat => if (k : Int) < 25 then fA g0 1 k else fA g0 (5 + 2 * m) k) := hS6
  show t_X d 78 38 lv [] g6 P
  refine t_0 utl_38 rfl (ld_a l0) ?_
  refine t_0 utl_39 rfl rfl ?_
  refine ts_f (n := 5) rfl rfl (tl_f5 m) utl_40 rfl (el_s4 hm) hS6 (tl_w7 m hm) (tl_g7 m hm) (by decide) ⟨by omega, by omega⟩ (fun g7 hS7 => ?_)
  replace hS7 : tE m g0 g7 1 a b c 0 0 v6 (fun k : Nat => if (k : Int) < 25 then fA g0 1 k else fA g0 (5 + 2 * m) k) := hS7
  show t_X d 78 43 lv [] g7 P
  refine t_0 utl_43 rfl (ld_a l0) ?_
  refine t_0 utl_44 rfl rfl ?_
  refine ts_f (n := 6) rfl rfl (tl_f6 m) utl_45 rfl (el_s4 hm) hS7 (tl_w8 m hm) (tl_g8 m hm) (by decide) ⟨by omega, by omega⟩ (fun g8 hS8 => ?_)
  replace hS8 : tE m g0 g8 1 a b c 0 0 0 (fun k : Nat => if (k : Int) < 25 then fA g0 1 k else fA g0 (5 + 2 * m) k) := hS8
  show t_X d 78 48 lv [] g8 P
  have J9 := S_J hS8
  have t9 : cF g8 0 1 = 0 := (cF_M J9.2 (WT_k m hm).2).trans h01
  refine mid_L (k := kTz m) (eTz_at hm) J9.1 (xL_K _ _ _ J9.2 (tl_a m hm).2.2.2 hx) (xs := [cv (pvR (4 + 2 * m))]) (ys := [cF g8 0 1, cF g8 (4 + 2 * m) 2]) ⟨by show 3 ≤ _; omega, ⟨⟨pvR (4 + 2 * m), l0, rfl, rfl, ok_s4 hm⟩, trivial⟩, ⟨⟨.inl (g8.1 0 1), hc_i er_0 (Nat.le_of_ble_eq_true rfl) rfl, rfl, rfl, ⟨by show 0 ≤ cF g8 0 1; omega, by show cF g8 0 1 ≤ 0; omega, Or.inl rfl⟩⟩, ⟨.inl (g8.1 (4 + 2 * m) 2), hc_z (el_s4 hm) (Nat.le_of_ble_eq_true rfl) rfl, rfl, rfl, ⟨by show 1 ≤ cF g8 (4 + 2 * m) 2; rw [show cF g8 (4 + 2 * m) 2 = 1 from S_f hS8 0 (Nat.le_of_ble_eq_true rfl)]; decide, by show cF g8 (4 + 2 * m) 2 ≤ 1; rw [show cF g8 (4 + 2 * m) 2 = 1 from S_f hS8 0 (Nat.le_of_ble_eq_true rfl)]; decide, Or.inl rfl⟩⟩, trivial⟩, fun c hc => absurd hc List.not_mem_nil⟩ (by omega) (fun o G1 X1 M1 P1 => ?_)
  obtain ⟨o1, o2⟩ := o
  obtain ⟨rfl, -⟩ := po_n P1
  obtain ⟨z1, z2, z3, z4, z5, z6, z7⟩ := tz_m m hm
  refine hP o2 G1 X1 (f_M_tr z1 J9.2 M1) ((cF_M M1 z2).trans (S_f hS8 0 (Nat.le_of_ble_eq_true rfl))) ((cF_M M1 z3).trans (S_f hS8 1 (Nat.le_of_ble_eq_true rfl))) ((cF_M M1 z4).trans (S_f hS8 2 (Nat.le_of_ble_eq_true rfl))) ((cF_M M1 z5).trans (S_f hS8 3 (Nat.le_of_ble_eq_true rfl))) ((cF_M M1 z6).trans (S_f hS8 4 (Nat.le_of_ble_eq_true rfl))) (fun j hj => ?_)
  rw [fA_M M1 z7, show fA g8 (5 + 2 * m) = fun k : Nat => if (k : Int) < 25 then fA g0 1 k else fA g0 (5 + 2 * m) k from S_a hS8 0 (Nat.le_of_ble_eq_true rfl)]
  exact if_pos (by omega)
set_option maxHeartbeats 2000000 in
theorem ucp78_run {m : Nat} (hm : m < 32) {d : Nat} (hd : 2 ≤ d) (hd2 : d ≤ 1000000) {g0 : pH} (hG : g_I eG g0) (hx : xL g0) {P : Option pv × pH → Prop} (hP : ∀ g1 : pH, g_I eG g1 → xL g1 → f_M (W73 78 m) g0 g1 → dC g0 g1 78 4 m → P (none, g1)) {lv : List (Nat × pv)} (l0 : px_lg lv 0 = some (pvR (78 + 2 * m))) (l1 : px_lg lv 1 = some (pvR (4 + 2 * m))) : t_X d 73 0 lv [] g0 P := by
  have hS : sE (tk4 (78 + 2 * m)) [79 + 2 * m] (W73 78 m) g0 g0 [cF g0 (78 + 2 * m) 3, cF g0 (78 + 2 * m) 4, cF g0 (78 + 2 * m) 5, cF g0 (78 + 2 * m) 6] [fA g0 (79 + 2 * m)] := S_0 hG
  refine t_0 ucp78_0 rfl (ld_a l1) ?_
  refine t_0 ucp78_1 rfl (tc_r4 hm (S_J hS).1) ?_
  show t_X d 73 4 lv [pvR (5 + 2 * m)] g0 P
  refine t_0 ucp78_4 rfl rfl ?_
  refine t_0 ucp78_5 rfl (ld_a l0) ?_
  refine t_0 ucp78_6 rfl (tc_r78 hm (S_J hS).1) ?_
  show t_X d 73 9 lv [pvR (79 + 2 * m), oI 0, pvR (5 + 2 * m)] g0 P
  refine t_0 ucp78_9 rfl rfl ?_
  refine t_0 ucp78_10 rfl (pq_b (by decide)) ?_
  refine ts_cp (n := 0) rfl rfl (tc_b _) ucp78_12 (by omega) (Nat.le_of_ble_eq_true rfl) hS (tc_a m hm).1.2 (tc_a m hm).1.1 rfl ⟨by omega, by omega, by omega⟩ (tc_a m hm).2.1.1 (tc_a m hm).2.2.1 (fun g1 hS1 => ?_)
  replace hS1 : sE (tk4 (78 + 2 * m)) [79 + 2 * m] (W73 78 m) g0 g1 [cF g0 (78 + 2 * m) 3, cF g0 (78 + 2 * m) 4, cF g0 (78 + 2 * m) 5, cF g0 (78 + 2 * m) 6] [fun k : Nat => if (k : Int) < 25 then fA g0 (5 + 2 * m) k else fA g0 (79 + 2 * m) k] := hS1
  show t_X d 73 15 lv [] g1 P
  refine t_0 ucp78_15 rfl (ld_a l0) ?_
  refine t_0 ucp78_16 rfl (ld_a l1) ?_
  have r2 := cb_z hG (el_s4 hm) (y := 2) (Nat.le_of_ble_eq_true rfl) rfl (tcg4_2 m hm)
  refine t_0 ucp78_17 rfl (pq_zv (el_s4 hm) rfl (cF_M (S_J hS1).2 (tcn4_2 m hm) : cF g1 (4 + 2 * m) 2 = cF g0 (4 + 2 * m) 2)) ?_
  show t_X d 73 20 lv [oI (cF g0 (4 + 2 * m) 2), pvR (78 + 2 * m)] g1 P
  refine ts_z0 (tcf_2 _) ucp78_20 rfl (el_s78 hm) hS1 (tcw78_2 m hm) (tcg78_2 m hm) (by decide) ⟨by omega, by omega⟩ (by omega) (fun g3 hS3 => ?_)
  replace hS3 : sE (tk4 (78 + 2 * m)) [79 + 2 * m] (W73 78 m) g0 g3 [cF g0 (78 + 2 * m) 3, cF g0 (78 + 2 * m) 4, cF g0 (78 + 2 * m) 5, cF g0 (78 + 2 * m) 6] [fun k : Nat => if (k : Int) < 25 then fA g0 (5 + 2 * m) k else fA g0 (79 + 2 * m) k] := hS3
  show t_X d 73 23 lv [] g3 P
  refine t_0 ucp78_23 rfl (ld_a l0) ?_
  refine t_0 ucp78_24 rfl (ld_a l1) ?_
  have r4 := cb_i hG (el_s4 hm) (y := 3) (Nat.le_of_ble_eq_true rfl) rfl (tcg4_3 m hm)
  refine t_0 ucp78_25 rfl (pq_cv (el_s4 hm) rfl (cF_M (S_J hS3).2 (tcn4_3 m hm) : cF g3 (4 + 2 * m) 3 = cF g0 (4 + 2 * m) 3)) ?_
  show t_X d 73 28 lv [oI (cF g0 (4 + 2 * m) 3), pvR (78 + 2 * m)] g3 P
  refine ts_f (n := 0) rfl rfl (tcf_3 _) ucp78_28 rfl (el_s78 hm) hS3 (tcw78_3 m hm) (tcg78_3 m hm) (by decide) ⟨by omega, by omega⟩ (fun g5 hS5 => ?_)
  replace hS5 : sE (tk4 (78 + 2 * m)) [79 + 2 * m] (W73 78 m) g0 g5 [cF g0 (4 + 2 * m) 3, cF g0 (78 + 2 * m) 4, cF g0 (78 + 2 * m) 5, cF g0 (78 + 2 * m) 6] [fun k : Nat => if (k : Int) < 25 then fA g0 (5 + 2 * m) k else fA g0 (79 + 2 * m) k] := hS5
  show t_X d 73 31 lv [] g5 P
  refine t_0 ucp78_31 rfl (ld_a l0) ?_
  refine t_0 ucp78_32 rfl (ld_a l1) ?_
  have r6 := cb_i hG (el_s4 hm) (y := 4) (Nat.le_of_ble_eq_true rfl) rfl (tcg4_4 m hm)
  refine t_0 ucp78_33 rfl (pq_cv (el_s4 hm) rfl (cF_M (S_J hS5).2 (tcn4_4 m hm) : cF g5 (4 + 2 * m) 4 = cF g0 (4 + 2 * m) 4)) ?_
  show t_X d 73 36 lv [oI (cF g0 (4 + 2 * m) 4), pvR (78 + 2 * m)] g5 P
  refine ts_f (n := 1) rfl rfl (tcf_4 _) ucp78_36 rfl (el_s78 hm) hS5 (tcw78_4 m hm) (tcg78_4 m hm) (by decide) ⟨by omega, by omega⟩ (fun g7 hS7 => ?_)
  replace hS7 : sE (tk4 (78 + 2 * m)) [79 + 2 * m] (W73 78 m) g0 g7 [cF g0 (4 + 2 * m) 3, cF g0 (4 + 2 * m) 4, cF g0 (78 + 2 * m) 5, cF g0 (78 + 2 * m) 6] [fun k : Nat => if (k : Int) < 25 then fA g0 (5 + 2 * m) k else fA g0 (79 + 2 * m) k] := hS7
  show t_X d 73 39 lv [] g7 P
  refine t_0 ucp78_39 rfl (ld_a l0) ?_
  refine t_0 ucp78_40 rfl (ld_a l1) ?_
  have r8 := cb_i hG (el_s4 hm) (y := 5) (Nat.le_of_ble_eq_true rfl) rfl (tcg4_5 m hm)
  refine t_0 ucp78_41 rfl (pq_cv (el_s4 hm) rfl (cF_M (S_J hS7).2 (tcn4_5 m hm) : cF g7 (4 + 2 * m) 5 = cF g0 (4 + 2 * m) 5)) ?_
  show t_X d 73 44 lv [oI (cF g0 (4 + 2 * m) 5), pvR (78 + 2 * m)] g7 P
  refine ts_f (n := 2) rfl rfl (tcf_5 _) ucp78_44 rfl (el_s78 hm) hS7 (tcw78_5 m hm) (tcg78_5 m hm) (by decide) ⟨by omega, by omega⟩ (fun g9 hS9 => ?_)
  replace hS9 : sE (tk4 (78 + 2 * m)) [79 + 2 * m] (W73 78 m) g0 g9 [cF g0 (4 + 2 * m) 3, cF g0 (4 + 2 * m) 4, cF g0 (4 + 2 * m) 5, cF g0 (78 + 2 * m) 6] [fun k : Nat => if (k : Int) < 25 then fA g0 (5 + 2 * m) k else fA g0 (79 + 2 * m) k] := hS9
  show t_X d 73 47 lv [] g9 P
  refine t_0 ucp78_47 rfl (ld_a l0) ?_
  refine t_0 ucp78_48 rfl (ld_a l1) ?_
  have r10 := cb_i hG (el_s4 hm) (y := 6) (Nat.le_of_ble_eq_true rfl) rfl (tcg4_6 m hm)
  refine t_0 ucp78_49 rfl (pq_cv (el_s4 hm) rfl (cF_M (S_J hS9).2 (tcn4_6 m hm) : cF g9 (4 + 2 * m) 6 = cF g0 (4 + 2 * m) 6)) ?_
  show t_X d 73 52 lv [oI (cF g0 (4 + 2 * m) 6), pvR (78 + 2 * m)] g9 P
  refine ts_f (n := 3) rfl rfl (tcf_6 _) ucp78_52 rfl (el_s78 hm) hS9 (tcw78_6 m hm) (tcg78_6 m hm) (by decide) ⟨by omega, by omega⟩ (fun g11 hS11 => ?_)
  replace hS11 : sE (tk4 (78 + 2 * m)) [79 + 2 * m] (W73 78 m) g0 g11 [cF g0 (4 + 2 * m) 3, cF g0 (4 + 2 * m) 4, cF g0 (4 + 2 * m) 5, cF g0 (4 + 2 * m) 6] [fun k : Nat => if (k : Int) < 25 then fA g0 (5 + 2 * m) k else fA g0 (79 + 2 * m) k] := hS11
  show t_X d 73 55 lv [] g11 P
  refine t_0 ucp78_55 rfl (ld_a l0) ?_
  refine t_0 ucp78_56 rfl (ld_a l1) ?_
  have r12 := cb_i hG (el_s4 hm) (y := 7) (Nat.le_of_ble_eq_true rfl) rfl (tcg4_7 m hm)
  refine t_0 ucp78_57 rfl (pq_cv (el_s4 hm) rfl (cF_M (S_J hS11).2 (tcn4_7 m hm) : cF g11 (4 + 2 * m) 7 = cF g0 (4 + 2 * m) 7)) ?_
  show t_X d 73 60 lv [oI (cF g0 (4 + 2 * m) 7), pvR (78 + 2 * m)] g11 P
  refine ts_f0 (tcf_7 _) ucp78_60 rfl (el_s78 hm) hS11 (tcw78_7 m hm) (tcg78_7 m hm) (by decide) ⟨by omega, by omega⟩ (fun g13 hS13 => ?_)
  replace hS13 : sE (tk4 (78 + 2 * m)) [79 + 2 * m] (W73 78 m) g0 g13 [cF g0 (4 + 2 * m) 3, cF g0 (4 + 2 * m) 4, cF g0 (4 + 2 * m) 5, cF g0 (4 + 2 * m) 6] [fun k : Nat => if (k : Int) < 25 then fA g0 (5 + 2 * m) k else fA g0 (79 + 2 * m) k] := hS13
  show t_X d 73 63 lv [] g13 P
  refine t_0 ucp78_63 rfl (ld_a l0) ?_
  refine t_0 ucp78_64 rfl (ld_a l1) ?_
  have r14 := cb_i hG (el_s4 hm) (y := 8) (Nat.le_of_ble_eq_true rfl) rfl (tcg4_8 m hm)
  refine t_0 ucp78_65 rfl (pq_cv (el_s4 hm) rfl (cF_M (S_J hS13).2 (tcn4_8 m hm) : cF g13 (4 + 2 * m) 8 = cF g0 (4 + 2 * m) 8)) ?_
  show t_X d 73 68 lv [oI (cF g0 (4 + 2 * m) 8), pvR (78 + 2 * m)] g13 P
  refine ts_f0 (tcf_8 _) ucp78_68 rfl (el_s78 hm) hS13 (tcw78_8 m hm) (tcg78_8 m hm) (by decide) ⟨by omega, by omega⟩ (fun g15 hS15 => ?_)
  replace hS15 : sE (tk4 (78 + 2 * m)) [79 + 2 * m] (W73 78 m) g0 g15 [cF g0 (4 + 2 * m) 3, cF g0 (4 + 2 * m) 4, cF g0 (4 + 2 * m) 5, cF g0 (4 + 2 * m) 6] [fun k : Nat => if (k : Int) < 25 then fA g0 (5 + 2 * m) k else fA g0 (79 + 2 * m) k] := hS15
  show t_X d 73 71 lv [] g15 P
  refine t_0 ucp78_71 rfl (ld_a l0) ?_
  refine t_0 ucp78_72 rfl (ld_a l1) ?_
  have r16 := cb_i hG (el_s4 hm) (y := 9) (Nat.le_of_ble_eq_true rfl) rfl (tcg4_9 m hm)
  refine t_0 ucp78_73 rfl (pq_cv (el_s4 hm) rfl (cF_M (S_J hS15).2 (tcn4_9 m hm) : cF g15 (4 + 2 * m) 9 = cF g0 (4 + 2 * m) 9)) ?_
  show t_X d 73 76 lv [oI (cF g0 (4 + 2 * m) 9), pvR (78 + 2 * m)] g15 P
  refine ts_f0 (tcf_9 _) ucp78_76 rfl (el_s78 hm) hS15 (tcw78_9 m hm) (tcg78_9 m hm) (by decide) ⟨by omega, by omega⟩ (fun g17 hS17 => ?_)
  replace hS17 : sE (tk4 (78 + 2 * m)) [79 + 2 * m] (W73 78 m) g0 g17 [cF g0 (4 + 2 * m) 3, cF g0 (4 + 2 * m) 4, cF g0 (4 + 2 * m) 5, cF g0 (4 + 2 * m) 6] [fun k : Nat => if (k : Int) < 25 then fA g0 (5 + 2 * m) k else fA g0 (79 + 2 * m) k] := hS17
  show t_X d 73 79 lv [] g17 P
  refine t_5 ucp78_79 rfl rfl ?_
  refine hP g17 (S_J hS17).1 (xL_K _ _ _ (S_J hS17).2 (tc_a m hm).2.2.2.1 hx) (S_J hS17).2 ⟨⟨S_f hS17 0 (Nat.le_of_ble_eq_true rfl), S_f hS17 1 (Nat.le_of_ble_eq_true rfl), S_f hS17 2 (Nat.le_of_ble_eq_true rfl), S_f hS17 3 (Nat.le_of_ble_eq_true rfl)⟩, fun k hk => ?_⟩
  rw [show fA g17 (79 + 2 * m) = fun k : Nat => if (k : Int) < 25 then fA g0 (5 + 2 * m) k else fA g0 (79 + 2 * m) k from S_a hS17 0 (Nat.le_of_ble_eq_true rfl)]
  exact if_pos (by omega)
set_option maxHeartbeats 2000000 in
theorem ucp4_run {m : Nat} (hm : m < 32) {d : Nat} (hd : 2 ≤ d) (hd2 : d ≤ 1000000) {g0 : pH} (hG : g_I eG g0) (hx : xL g0) {P : Option pv × pH → Prop} (hP : ∀ g1 : pH, g_I eG g1 → xL g1 → f_M (W73 4 m) g0 g1 → dC g0 g1 4 78 m → P (none, g1)) {lv : List (Nat × pv)} (l0 : px_lg lv 0 = some (pvR (4 + 2 * m))) (l1 : px_lg lv 1 = some (pvR (78 + 2 * m))) : t_X d 73 0 lv [] g0 P := by
  have hS : sE (tk4 (4 + 2 * m)) [5 + 2 * m] (W73 4 m) g0 g0 [cF g0 (4 + 2 * m) 3, cF g0 (4 + 2 * m) 4, cF g0 (4 + 2 * m) 5, cF g0 (4 + 2 * m) 6] [fA g0 (5 + 2 * m)] := S_0 hG
  refine t_0 ucp4_0 rfl (ld_a l1) ?_
  refine t_0 ucp4_1 rfl (tc_r78 hm (S_J hS).1) ?_
  show t_X d 73 4 lv [pvR (79 + 2 * m)] g0 P
  refine t_0 ucp4_4 rfl rfl ?_
  refine t_0 ucp4_5 rfl (ld_a l0) ?_
  refine t_0 ucp4_6 rfl (tc_r4 hm (S_J hS).1) ?_
  show t_X d 73 9 lv [pvR (5 + 2 * m), oI 0, pvR (79 + 2 * m)] g0 P
  refine t_0 ucp4_9 rfl rfl ?_
  refine t_0 ucp4_10 rfl (pq_b (by decide)) ?_
  refine ts_cp (n := 0) rfl rfl (tc_b _) ucp4_12 (by omega) (Nat.le_of_ble_eq_true rfl) hS (tc_a m hm).1.1 (tc_a m hm).1.2 rfl ⟨by omega, by omega, by omega⟩ (tc_a m hm).2.1.2 (tc_a m hm).2.2.1.symm (fun g1 hS1 => ?_)
  replace hS1 : sE (tk4 (4 + 2 * m)) [5 + 2 * m] (W73 4 m) g0 g1 [cF g0 (4 + 2 * m) 3, cF g0 (4 + 2 * m) 4, cF g0 (4 + 2 * m) 5, cF g0 (4 + 2 * m) 6] [fun k : Nat => if (k : Int) < 25 then fA g0 (79 + 2 * m) k else fA g0 (5 + 2 * m) k] := hS1
  show t_X d 73 15 lv [] g1 P
  refine t_0 ucp4_15 rfl (ld_a l0) ?_
  refine t_0 ucp4_16 rfl (ld_a l1) ?_
  have r2 := cb_z hG (el_s78 hm) (y := 2) (Nat.le_of_ble_eq_true rfl) rfl (tcg78_2 m hm)
  refine t_0 ucp4_17 rfl (pq_zv (el_s78 hm) rfl (cF_M (S_J hS1).2 (tcn78_2 m hm) : cF g1 (78 + 2 * m) 2 = cF g0 (78 + 2 * m) 2)) ?_
  show t_X d 73 20 lv [oI (cF g0 (78 + 2 * m) 2), pvR (4 + 2 * m)] g1 P
  refine ts_z0 (tcf_2 _) ucp4_20 rfl (el_s4 hm) hS1 (tcw4_2 m hm) (tcg4_2 m hm) (by decide) ⟨by omega, by omega⟩ (by omega) (fun g3 hS3 => ?_)
  replace hS3 : sE (tk4 (4 + 2 * m)) [5 + 2 * m] (W73 4 m) g0 g3 [cF g0 (4 + 2 * m) 3, cF g0 (4 + 2 * m) 4, cF g0 (4 + 2 * m) 5, cF g0 (4 + 2 * m) 6] [fun k : Nat => if (k : Int) < 25 then fA g0 (79 + 2 * m) k else fA g0 (5 + 2 * m) k] := hS3
  show t_X d 73 23 lv [] g3 P
  refine t_0 ucp4_23 rfl (ld_a l0) ?_
  refine t_0 ucp4_24 rfl (ld_a l1) ?_
  have r4 := cb_i hG (el_s78 hm) (y := 3) (Nat.le_of_ble_eq_true rfl) rfl (tcg78_3 m hm)
  refine t_0 ucp4_25 rfl (pq_cv (el_s78 hm) rfl (cF_M (S_J hS3).2 (tcn78_3 m hm) : cF g3 (78 + 2 * m) 3 = cF g0 (78 + 2 * m) 3)) ?_
  show t_X d 73 28 lv [oI (cF g0 (78 + 2 * m) 3), pvR (4 + 2 * m)] g3 P
  refine ts_f (n := 0) rfl rfl (tcf_3 _) ucp4_28 rfl (el_s4 hm) hS3 (tcw4_3 m hm) (tcg4_3 m hm) (by decide) ⟨by omega, by omega⟩ (fun g5 hS5 => ?_)
  replace hS5 : sE (tk4 (4 + 2 * m)) [5 + 2 * m] (W73 4 m) g0 g5 [cF g0 (78 + 2 * m) 3, cF g0 (4 + 2 * m) 4, cF g0 (4 + 2 * m) 5, cF g0 (4 + 2 * m) 6] [fun k : Nat => if (k : Int) < 25 then fA g0 (79 + 2 * m) k else fA g0 (5 + 2 * m) k] := hS5
  show t_X d 73 31 lv [] g5 P
  refine t_0 ucp4_31 rfl (ld_a l0) ?_
  refine t_0 ucp4_32 rfl (ld_a l1) ?_
  have r6 := cb_i hG (el_s78 hm) (y := 4) (Nat.le_of_ble_eq_true rfl) rfl (tcg78_4 m hm)
  refine t_0 ucp4_33 rfl (pq_cv (el_s78 hm) rfl (cF_M (S_J hS5).2 (tcn78_4 m hm) : cF g5 (78 + 2 * m) 4 = cF g0 (78 + 2 * m) 4)) ?_
  show t_X d 73 36 lv [oI (cF g0 (78 + 2 * m) 4), pvR (4 + 2 * m)] g5 P
  refine ts_f (n := 1) rfl rfl (tcf_4 _) ucp4_36 rfl (el_s4 hm) hS5 (tcw4_4 m hm) (tcg4_4 m hm) (by decide) ⟨by omega, by omega⟩ (fun g7 hS7 => ?_)
  replace hS7 : sE (tk4 (4 + 2 * m)) [5 + 2 * m] (W73 4 m) g0 g7 [cF g0 (78 + 2 * m) 3, cF g0 (78 + 2 * m) 4, cF g0 (4 + 2 * m) 5, cF g0 (4 + 2 * m) 6] [fun k : Nat => if (k : Int) < 25 then fA g0 (79 + 2 * m) k else fA g0 (5 + 2 * m) k] := hS7
  show t_X d 73 39 lv [] g7 P
  refine t_0 ucp4_39 rfl (ld_a l0) ?_
  refine t_0 ucp4_40 rfl (ld_a l1) ?_
  have r8 := cb_i hG (el_s78 hm) (y := 5) (Nat.le_of_ble_eq_true rfl) rfl (tcg78_5 m hm)
  refine t_0 ucp4_41 rfl (pq_cv (el_s78 hm) rfl (cF_M (S_J hS7).2 (tcn78_5 m hm) : cF g7 (78 + 2 * m) 5 = cF g0 (78 + 2 * m) 5)) ?_
  show t_X d 73 44 lv [oI (cF g0 (78 + 2 * m) 5), pvR (4 + 2 * m)] g7 P
  refine ts_f (n := 2) rfl rfl (tcf_5 _) ucp4_44 rfl (el_s4 hm) hS7 (tcw4_5 m hm) (tcg4_5 m hm) (by decide) ⟨by omega, by omega⟩ (fun g9 hS9 => ?_)
  replace hS9 : sE (tk4 (4 + 2 * m)) [5 + 2 * m] (W73 4 m) g0 g9 [cF g0 (78 + 2 * m) 3, cF g0 (78 + 2 * m) 4, cF g0 (78 + 2 * m) 5, cF g0 (4 + 2 * m) 6] [fun k : Nat => if (k : Int) < 25 then fA g0 (79 + 2 * m) k else fA g0 (5 + 2 * m) k] := hS9
  show t_X d 73 47 lv [] g9 P
  refine t_0 ucp4_47 rfl (ld_a l0) ?_
  refine t_0 ucp4_48 rfl (ld_a l1) ?_
  have r10 := cb_i hG (el_s78 hm) (y := 6) (Nat.le_of_ble_eq_true rfl) rfl (tcg78_6 m hm)
  refine t_0 ucp4_49 rfl (pq_cv (el_s78 hm) rfl (cF_M (S_J hS9).2 (tcn78_6 m hm) : cF g9 (78 + 2 * m) 6 = cF g0 (78 + 2 * m) 6)) ?_
  show t_X d 73 52 lv [oI (cF g0 (78 + 2 * m) 6), pvR (4 + 2 * m)] g9 P
  refine ts_f (n := 3) rfl rfl (tcf_6 _) ucp4_52 rfl (el_s4 hm) hS9 (tcw4_6 m hm) (tcg4_6 m hm) (by decide) ⟨by omega, by omega⟩ (fun g11 hS11 => ?_)
  replace hS11 : sE (tk4 (4 + 2 * m)) [5 + 2 * m] (W73 4 m) g0 g11 [cF g0 (78 + 2 * m) 3, cF g0 (78 + 2 * m) 4, cF g0 (78 + 2 * m) 5, cF g0 (78 + 2 * m) 6] [fun k : Nat => if (k : Int) < 25 then fA g0 (79 + 2 * m) k else fA g0 (5 + 2 * m) k] := hS11
  show t_X d 73 55 lv [] g11 P
  refine t_0 ucp4_55 rfl (ld_a l0) ?_
  refine t_0 ucp4_56 rfl (ld_a l1) ?_
  have r12 := cb_i hG (el_s78 hm) (y := 7) (Nat.le_of_ble_eq_true rfl) rfl (tcg78_7 m hm)
  refine t_0 ucp4_57 rfl (pq_cv (el_s78 hm) rfl (cF_M (S_J hS11).2 (tcn78_7 m hm) : cF g11 (78 + 2 * m) 7 = cF g0 (78 + 2 * m) 7)) ?_
  show t_X d 73 60 lv [oI (cF g0 (78 + 2 * m) 7), pvR (4 + 2 * m)] g11 P
  refine ts_f0 (tcf_7 _) ucp4_60 rfl (el_s4 hm) hS11 (tcw4_7 m hm) (tcg4_7 m hm) (by decide) ⟨by omega, by omega⟩ (fun g13 hS13 => ?_)
  replace hS13 : sE (tk4 (4 + 2 * m)) [5 + 2 * m] (W73 4 m) g0 g13 [cF g0 (78 + 2 * m) 3, cF g0 (78 + 2 * m) 4, cF g0 (78 + 2 * m) 5, cF g0 (78 + 2 * m) 6] [fun k : Nat => if (k : Int) < 25 then fA g0 (79 + 2 * m) k else fA g0 (5 + 2 * m) k] := hS13
  show t_X d 73 63 lv [] g13 P
  refine t_0 ucp4_63 rfl (ld_a l0) ?_
  refine t_0 ucp4_64 rfl (ld_a l1) ?_
  have r14 := cb_i hG (el_s78 hm) (y := 8) (Nat.le_of_ble_eq_true rfl) rfl (tcg78_8 m hm)
  refine t_0 ucp4_65 rfl (pq_cv (el_s78 hm) rfl (cF_M (S_J hS13).2 (tcn78_8 m hm) : cF g13 (78 + 2 * m) 8 = cF g0 (78 + 2 * m) 8)) ?_
  show t_X d 73 68 lv [oI (cF g0 (78 + 2 * m) 8), pvR (4 + 2 * m)] g13 P
  refine ts_f0 (tcf_8 _) ucp4_68 rfl (el_s4 hm) hS13 (tcw4_8 m hm) (tcg4_8 m hm) (by decide) ⟨by omega, by omega⟩ (fun g15 hS15 => ?_)
  replace hS15 : sE (tk4 (4 + 2 * m)) [5 + 2 * m] (W73 4 m) g0 g15 [cF g0 (78 + 2 * m) 3, cF g0 (78 + 2 * m) 4, cF g0 (78 + 2 * m) 5, cF g0 (78 + 2 * m) 6] [fun k : Nat => if (k : Int) < 25 then fA g0 (79 + 2 * m) k else fA g0 (5 + 2 * m) k] := hS15
  show t_X d 73 71 lv [] g15 P
  refine t_0 ucp4_71 rfl (ld_a l0) ?_
  refine t_0 ucp4_72 rfl (ld_a l1) ?_
  have r16 := cb_i hG (el_s78 hm) (y := 9) (Nat.le_of_ble_eq_true rfl) rfl (tcg78_9 m hm)
  refine t_0 ucp4_73 rfl (pq_cv (el_s78 hm) rfl (cF_M (S_J hS15).2 (tcn78_9 m hm) : cF g15 (78 + 2 * m) 9 = cF g0 (78 + 2 * m) 9)) ?_
  show t_X d 73 76 lv [oI (cF g0 (78 + 2 * m) 9), pvR (4 + 2 * m)] g15 P
  refine ts_f0 (tcf_9 _) ucp4_76 rfl (el_s4 hm) hS15 (tcw4_9 m hm) (tcg4_9 m hm) (by decide) ⟨by omega, by omega⟩ (fun g17 hS17 => ?_)
  replace hS17 : sE (tk4 (4 + 2 * m)) [5 + 2 * m] (W73 4 m) g0 g17 [cF g0 (78 + 2 * m) 3, cF g0 (78 + 2 * m) 4, cF g0 (78 + 2 * m) 5, cF g0 (78 + 2 * m) 6] [fun k : Nat => if (k : Int) < 25 then fA g0 (79 + 2 * m) k else fA g0 (5 + 2 * m) k] := hS17
  show t_X d 73 79 lv [] g17 P
  refine t_5 ucp4_79 rfl rfl ?_
  refine hP g17 (S_J hS17).1 (xL_K _ _ _ (S_J hS17).2 (tc_a m hm).2.2.2.2 hx) (S_J hS17).2 ⟨⟨S_f hS17 0 (Nat.le_of_ble_eq_true rfl), S_f hS17 1 (Nat.le_of_ble_eq_true rfl), S_f hS17 2 (Nat.le_of_ble_eq_true rfl), S_f hS17 3 (Nat.le_of_ble_eq_true rfl)⟩, fun k hk => ?_⟩
  rw [show fA g17 (5 + 2 * m) = fun k : Nat => if (k : Int) < 25 then fA g0 (79 + 2 * m) k else fA g0 (5 + 2 * m) k from S_a hS17 0 (Nat.le_of_ble_eq_true rfl)]
  exact if_pos (by omega)
