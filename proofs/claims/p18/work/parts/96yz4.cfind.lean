/-! turning: the class: all sets, the row (printed by wip/e2/x26.py) -/
theorem vfi_0 : xe_look (xc 101) 0 = some (.aload_n 0, 1, 0, 0, 0) := by decide +kernel
theorem vfi_1 : xe_look (xc 101) 1 = some (.aload_n 1, 1, 0, 0, 0) := by decide +kernel
theorem vfi_2 : xe_look (xc 101) 2 = some (.aload_n 2, 1, 0, 0, 0) := by decide +kernel
theorem vfi_3 : xe_look (xc 101) 3 = some (.invokevirtual 34, 3, 0, 99, 972) := by decide +kernel
theorem vfi_6 : xe_look (xc 101) 6 = some (.aload_n 0, 1, 0, 0, 0) := by decide +kernel
theorem vfi_7 : xe_look (xc 101) 7 = some (.getfield 38, 3, 10, 0, 963) := by decide +kernel
theorem vfi_10 : xe_look (xc 101) 10 = some (.ifCond .ne 4, 3, 0, 0, 0) := by decide +kernel
theorem vfi_13 : xe_look (xc 101) 13 = some (.return_, 1, 0, 0, 0) := by decide +kernel
theorem vfi_14 : xe_look (xc 101) 14 = some (.sipush 255, 3, 0, 0, 0) := by decide +kernel
theorem vfi_17 : xe_look (xc 101) 17 = some (.istore_n 3, 1, 0, 0, 0) := by decide +kernel
theorem vfi_18 : xe_look (xc 101) 18 = some (.iload_n 3, 1, 0, 0, 0) := by decide +kernel
theorem vfi_19 : xe_look (xc 101) 19 = some (.ifCond .le 64, 3, 0, 0, 0) := by decide +kernel
theorem vfi_22 : xe_look (xc 101) 22 = some (.aload_n 0, 1, 0, 0, 0) := by decide +kernel
theorem vfi_23 : xe_look (xc 101) 23 = some (.getfield 21, 3, 10, 4, 973) := by decide +kernel
theorem vfi_26 : xe_look (xc 101) 26 = some (.iload_n 3, 1, 0, 0, 0) := by decide +kernel
theorem vfi_27 : xe_look (xc 101) 27 = some (.aload_n 0, 1, 0, 0, 0) := by decide +kernel
theorem vfi_28 : xe_look (xc 101) 28 = some (.iload_n 3, 1, 0, 0, 0) := by decide +kernel
theorem vfi_29 : xe_look (xc 101) 29 = some (.invokevirtual 42, 3, 0, 106, 974) := by decide +kernel
theorem vfi_32 : xe_look (xc 101) 32 = some (.iastore, 1, 0, 0, 0) := by decide +kernel
theorem vfi_33 : xe_look (xc 101) 33 = some (.iconst 0, 1, 0, 0, 0) := by decide +kernel
theorem vfi_34 : xe_look (xc 101) 34 = some (.istore 4, 2, 0, 0, 0) := by decide +kernel
theorem vfi_36 : xe_look (xc 101) 36 = some (.iload 4, 2, 0, 0, 0) := by decide +kernel
theorem vfi_38 : xe_look (xc 101) 38 = some (.bipush 8, 2, 0, 0, 0) := by decide +kernel
theorem vfi_40 : xe_look (xc 101) 40 = some (.if_icmp .ge 37, 3, 0, 0, 0) := by decide +kernel
theorem vfi_43 : xe_look (xc 101) 43 = some (.iload_n 3, 1, 0, 0, 0) := by decide +kernel
theorem vfi_44 : xe_look (xc 101) 44 = some (.iload 4, 2, 0, 0, 0) := by decide +kernel
theorem vfi_46 : xe_look (xc 101) 46 = some (.ishr, 1, 0, 0, 0) := by decide +kernel
theorem vfi_47 : xe_look (xc 101) 47 = some (.iconst 1, 1, 0, 0, 0) := by decide +kernel
theorem vfi_48 : xe_look (xc 101) 48 = some (.iand, 1, 0, 0, 0) := by decide +kernel
theorem vfi_49 : xe_look (xc 101) 49 = some (.ifCond .eq 22, 3, 0, 0, 0) := by decide +kernel
theorem vfi_52 : xe_look (xc 101) 52 = some (.aload_n 0, 1, 0, 0, 0) := by decide +kernel
theorem vfi_53 : xe_look (xc 101) 53 = some (.getfield 24, 3, 10, 5, 975) := by decide +kernel
theorem vfi_56 : xe_look (xc 101) 56 = some (.iload_n 3, 1, 0, 0, 0) := by decide +kernel
theorem vfi_57 : xe_look (xc 101) 57 = some (.bipush 8, 2, 0, 0, 0) := by decide +kernel
theorem vfi_59 : xe_look (xc 101) 59 = some (.imul, 1, 0, 0, 0) := by decide +kernel
theorem vfi_60 : xe_look (xc 101) 60 = some (.iload 4, 2, 0, 0, 0) := by decide +kernel
theorem vfi_62 : xe_look (xc 101) 62 = some (.iadd, 1, 0, 0, 0) := by decide +kernel
theorem vfi_63 : xe_look (xc 101) 63 = some (.aload_n 0, 1, 0, 0, 0) := by decide +kernel
theorem vfi_64 : xe_look (xc 101) 64 = some (.iload_n 3, 1, 0, 0, 0) := by decide +kernel
theorem vfi_65 : xe_look (xc 101) 65 = some (.iload 4, 2, 0, 0, 0) := by decide +kernel
theorem vfi_67 : xe_look (xc 101) 67 = some (.invokevirtual 46, 3, 0, 100, 976) := by decide +kernel
theorem vfi_70 : xe_look (xc 101) 70 = some (.iastore, 1, 0, 0, 0) := by decide +kernel
theorem vfi_71 : xe_look (xc 101) 71 = some (.iinc 4 1, 3, 0, 0, 0) := by decide +kernel
theorem vfi_74 : xe_look (xc 101) 74 = some (.goto (-38), 3, 0, 0, 0) := by decide +kernel
theorem vfi_77 : xe_look (xc 101) 77 = some (.iinc 3 (-2), 3, 0, 0, 0) := by decide +kernel
theorem vfi_80 : xe_look (xc 101) 80 = some (.goto (-62), 3, 0, 0, 0) := by decide +kernel
theorem vfi_83 : xe_look (xc 101) 83 = some (.aload_n 0, 1, 0, 0, 0) := by decide +kernel
theorem vfi_84 : xe_look (xc 101) 84 = some (.invokevirtual 50, 3, 0, 103, 977) := by decide +kernel
theorem vfi_87 : xe_look (xc 101) 87 = some (.return_, 1, 0, 0, 0) := by decide +kernel
theorem vlw_0 : xe_look (xc 105) 0 = some (.iconst 1, 1, 0, 0, 0) := by decide +kernel
theorem vlw_1 : xe_look (xc 105) 1 = some (.istore_n 3, 1, 0, 0, 0) := by decide +kernel
theorem vlw_2 : xe_look (xc 105) 2 = some (.iload_n 3, 1, 0, 0, 0) := by decide +kernel
theorem vlw_3 : xe_look (xc 105) 3 = some (.bipush 8, 2, 0, 0, 0) := by decide +kernel
theorem vlw_5 : xe_look (xc 105) 5 = some (.if_icmp .ge 61, 3, 0, 0, 0) := by decide +kernel
theorem vlw_8 : xe_look (xc 105) 8 = some (.iload_n 2, 1, 0, 0, 0) := by decide +kernel
theorem vlw_9 : xe_look (xc 105) 9 = some (.iload_n 3, 1, 0, 0, 0) := by decide +kernel
theorem vlw_10 : xe_look (xc 105) 10 = some (.invokestatic 61, 3, 1, 163, 8) := by decide +kernel
theorem vlw_13 : xe_look (xc 105) 13 = some (.istore 4, 2, 0, 0, 0) := by decide +kernel
theorem vlw_15 : xe_look (xc 105) 15 = some (.iload_n 1, 1, 0, 0, 0) := by decide +kernel
theorem vlw_16 : xe_look (xc 105) 16 = some (.iload 4, 2, 0, 0, 0) := by decide +kernel
theorem vlw_18 : xe_look (xc 105) 18 = some (.ishr, 1, 0, 0, 0) := by decide +kernel
theorem vlw_19 : xe_look (xc 105) 19 = some (.iconst 1, 1, 0, 0, 0) := by decide +kernel
theorem vlw_20 : xe_look (xc 105) 20 = some (.iand, 1, 0, 0, 0) := by decide +kernel
theorem vlw_21 : xe_look (xc 105) 21 = some (.ifCond .ne 7, 3, 0, 0, 0) := by decide +kernel
theorem vlw_24 : xe_look (xc 105) 24 = some (.iconst 1, 1, 0, 0, 0) := by decide +kernel
theorem vlw_25 : xe_look (xc 105) 25 = some (.goto 4, 3, 0, 0, 0) := by decide +kernel
theorem vlw_28 : xe_look (xc 105) 28 = some (.iconst 0, 1, 0, 0, 0) := by decide +kernel
theorem vlw_29 : xe_look (xc 105) 29 = some (.istore 5, 2, 0, 0, 0) := by decide +kernel
theorem vlw_31 : xe_look (xc 105) 31 = some (.iload 5, 2, 0, 0, 0) := by decide +kernel
theorem vlw_33 : xe_look (xc 105) 33 = some (.ifCond .eq 27, 3, 0, 0, 0) := by decide +kernel
theorem vlw_36 : xe_look (xc 105) 36 = some (.aload_n 0, 1, 0, 0, 0) := by decide +kernel
theorem vlw_37 : xe_look (xc 105) 37 = some (.iload_n 1, 1, 0, 0, 0) := by decide +kernel
theorem vlw_38 : xe_look (xc 105) 38 = some (.iload_n 2, 1, 0, 0, 0) := by decide +kernel
theorem vlw_39 : xe_look (xc 105) 39 = some (.iload 4, 2, 0, 0, 0) := by decide +kernel
theorem vlw_41 : xe_look (xc 105) 41 = some (.invokevirtual 70, 3, 0, 107, 970) := by decide +kernel
theorem vlw_44 : xe_look (xc 105) 44 = some (.aload_n 0, 1, 0, 0, 0) := by decide +kernel
theorem vlw_45 : xe_look (xc 105) 45 = some (.getfield 24, 3, 10, 5, 975) := by decide +kernel
theorem vlw_48 : xe_look (xc 105) 48 = some (.iload_n 1, 1, 0, 0, 0) := by decide +kernel
theorem vlw_49 : xe_look (xc 105) 49 = some (.bipush 8, 2, 0, 0, 0) := by decide +kernel
theorem vlw_51 : xe_look (xc 105) 51 = some (.imul, 1, 0, 0, 0) := by decide +kernel
theorem vlw_52 : xe_look (xc 105) 52 = some (.iload_n 2, 1, 0, 0, 0) := by decide +kernel
theorem vlw_53 : xe_look (xc 105) 53 = some (.iadd, 1, 0, 0, 0) := by decide +kernel
theorem vlw_54 : xe_look (xc 105) 54 = some (.iaload, 1, 0, 0, 0) := by decide +kernel
theorem vlw_55 : xe_look (xc 105) 55 = some (.if_icmp .ne 5, 3, 0, 0, 0) := by decide +kernel
theorem vlw_58 : xe_look (xc 105) 58 = some (.iload_n 3, 1, 0, 0, 0) := by decide +kernel
theorem vlw_59 : xe_look (xc 105) 59 = some (.ireturn, 1, 0, 0, 0) := by decide +kernel
theorem vlw_60 : xe_look (xc 105) 60 = some (.iinc 3 1, 3, 0, 0, 0) := by decide +kernel
theorem vlw_63 : xe_look (xc 105) 63 = some (.goto (-61), 3, 0, 0, 0) := by decide +kernel
theorem vly_0 : xe_look (xc 103) 0 = some (.iconst 1, 1, 0, 0, 0) := by decide +kernel
theorem vly_1 : xe_look (xc 103) 1 = some (.istore_n 1, 1, 0, 0, 0) := by decide +kernel
theorem vly_2 : xe_look (xc 103) 2 = some (.iconst 0, 1, 0, 0, 0) := by decide +kernel
theorem vly_3 : xe_look (xc 103) 3 = some (.istore_n 2, 1, 0, 0, 0) := by decide +kernel
theorem vly_4 : xe_look (xc 103) 4 = some (.iconst 0, 1, 0, 0, 0) := by decide +kernel
theorem vly_5 : xe_look (xc 103) 5 = some (.istore_n 3, 1, 0, 0, 0) := by decide +kernel
theorem vly_6 : xe_look (xc 103) 6 = some (.iload_n 3, 1, 0, 0, 0) := by decide +kernel
theorem vly_7 : xe_look (xc 103) 7 = some (.bipush 7, 2, 0, 0, 0) := by decide +kernel
theorem vly_9 : xe_look (xc 103) 9 = some (.if_icmp .ge 38, 3, 0, 0, 0) := by decide +kernel
theorem vly_12 : xe_look (xc 103) 12 = some (.aload_n 0, 1, 0, 0, 0) := by decide +kernel
theorem vly_13 : xe_look (xc 103) 13 = some (.iload_n 1, 1, 0, 0, 0) := by decide +kernel
theorem vly_14 : xe_look (xc 103) 14 = some (.iload_n 2, 1, 0, 0, 0) := by decide +kernel
theorem vly_15 : xe_look (xc 103) 15 = some (.invokevirtual 82, 3, 0, 105, 980) := by decide +kernel
theorem vly_18 : xe_look (xc 103) 18 = some (.istore 4, 2, 0, 0, 0) := by decide +kernel
theorem vly_20 : xe_look (xc 103) 20 = some (.aload_n 0, 1, 0, 0, 0) := by decide +kernel
theorem vly_21 : xe_look (xc 103) 21 = some (.getfield 27, 3, 10, 6, 979) := by decide +kernel
theorem vly_24 : xe_look (xc 103) 24 = some (.iload_n 3, 1, 0, 0, 0) := by decide +kernel
theorem vly_25 : xe_look (xc 103) 25 = some (.iload 4, 2, 0, 0, 0) := by decide +kernel
theorem vly_27 : xe_look (xc 103) 27 = some (.iastore, 1, 0, 0, 0) := by decide +kernel
theorem vly_28 : xe_look (xc 103) 28 = some (.iload_n 2, 1, 0, 0, 0) := by decide +kernel
theorem vly_29 : xe_look (xc 103) 29 = some (.iload 4, 2, 0, 0, 0) := by decide +kernel
theorem vly_31 : xe_look (xc 103) 31 = some (.invokestatic 61, 3, 1, 163, 8) := by decide +kernel
theorem vly_34 : xe_look (xc 103) 34 = some (.istore_n 2, 1, 0, 0, 0) := by decide +kernel
theorem vly_35 : xe_look (xc 103) 35 = some (.iload_n 1, 1, 0, 0, 0) := by decide +kernel
theorem vly_36 : xe_look (xc 103) 36 = some (.iconst 1, 1, 0, 0, 0) := by decide +kernel
theorem vly_37 : xe_look (xc 103) 37 = some (.iload_n 2, 1, 0, 0, 0) := by decide +kernel
theorem vly_38 : xe_look (xc 103) 38 = some (.ishl, 1, 0, 0, 0) := by decide +kernel
theorem vly_39 : xe_look (xc 103) 39 = some (.ior, 1, 0, 0, 0) := by decide +kernel
theorem vly_40 : xe_look (xc 103) 40 = some (.istore_n 1, 1, 0, 0, 0) := by decide +kernel
theorem vly_41 : xe_look (xc 103) 41 = some (.iinc 3 1, 3, 0, 0, 0) := by decide +kernel
theorem vly_44 : xe_look (xc 103) 44 = some (.goto (-38), 3, 0, 0, 0) := by decide +kernel
theorem vly_47 : xe_look (xc 103) 47 = some (.return_, 1, 0, 0, 0) := by decide +kernel
def wD9 : Nat := 2 ^ cn 181 ||| 2 ^ cn 182
def wF9 : Nat := wA9 ||| wD9 ||| 2 ^ cn 183
theorem wD_n : (wD9.testBit (cn 178) = false ∧ wD9.testBit (cn 179) = false ∧ wD9.testBit (cn 180) = false ∧ wD9.testBit (cn 177 + 0) = false) ∧ (wA9 &&& wF9 = wA9 ∧ wD9 &&& wF9 = wD9 ∧ 2 ^ cn 183 &&& wF9 = 2 ^ cn 183) ∧ ((2 ^ cn 183).testBit (cn 178) = false ∧ (2 ^ cn 183).testBit (cn 179) = false ∧ (2 ^ cn 183).testBit (cn 181) = false ∧ (2 ^ cn 183).testBit (cn 182) = false ∧ (2 ^ cn 183).testBit (cn 177 + 0) = false) := by decide +kernel
theorem gV_b {h tk : Nat → Int} {rt : Nat → Bool} (hh : ∀ w, 0 ≤ h w ∧ h w ≤ 99) (ht : ∀ t, 0 ≤ tk t ∧ tk t ≤ 99) {set last : Nat} (hs : set < 256) (hl : last < 8) (hb : set.testBit last = true) : 0 ≤ gV h tk rt set last ∧ gV h tk rt set last ≤ 2000000 := by
  obtain ⟨-, g2, -⟩ := gG_s (rt := rt) hh ht (cntW set) set last hs hl hb rfl
  have : cntW set ≤ 8 := by
    unfold cntW
    exact Nat.le_trans (List.length_filter_le _ _) (by rw [List.length_range]; exact Nat.le_refl _)
  omega
theorem odd_o {set v : Nat} (hs : set < 256) (ho : set % 2 = 1) (hv : v < 8) (hf : set.testBit v = false) : set ||| 2 ^ v < 256 ∧ (set ||| 2 ^ v) % 2 = 1 ∧ set < set ||| 2 ^ v ∧ (set ||| 2 ^ v).testBit v = true := by
  obtain ⟨-, u2, u3, c4⟩ := cnt_o set hs v hv hf
  refine ⟨u2, ?_, u3, by rw [tb_or]; simp⟩
  rw [c4]
  split
  · rfl
  · exact ho
def w183 : Nat := 2 ^ cn 183
theorem wY_n : w183.testBit (cn 179) = false ∧ w183.testBit (cn 181) = false ∧ w183.testBit (cn 182) = false := by decide +kernel
theorem yneo_177 : eL[177]? = some (0, 10) := by decide +kernel
theorem yngu_181 : eG (cn 181) = ((-2147483648), 2147483647, []) := by decide +kernel
theorem yngu_182 : eG (cn 182) = (0, 2147483647, []) := by decide +kernel
theorem yngu_183 : eG (cn 183) = (0, 7, []) := by decide +kernel
theorem ynch_177_4 : (eG (cn 177 + 4)).2.2 = [182] := by decide +kernel
theorem yncq_177_4 {d i : Nat} {lv : List (Nat × pv)} {r : List pv} {g : pH} (hG : g_I eG g) : px_push eL d none (.getfield i) 10 4 lv (pvR 177 :: r) g = some (pvR 181 :: r) := pget yneo_177 (gI_r (r := 181) hG yneo_177 (Nat.le_of_ble_eq_true rfl) (y := 4) rfl ynch_177_4)
theorem ynch_177_5 : (eG (cn 177 + 5)).2.2 = [183] := by decide +kernel
theorem yncq_177_5 {d i : Nat} {lv : List (Nat × pv)} {r : List pv} {g : pH} (hG : g_I eG g) : px_push eL d none (.getfield i) 10 5 lv (pvR 177 :: r) g = some (pvR 182 :: r) := pget yneo_177 (gI_r (r := 182) hG yneo_177 (Nat.le_of_ble_eq_true rfl) (y := 5) rfl ynch_177_5)
theorem ynch_177_6 : (eG (cn 177 + 6)).2.2 = [184] := by decide +kernel
theorem yncq_177_6 {d i : Nat} {lv : List (Nat × pv)} {r : List pv} {g : pH} (hG : g_I eG g) : px_push eL d none (.getfield i) 10 6 lv (pvR 177 :: r) g = some (pvR 183 :: r) := pget yneo_177 (gI_r (r := 183) hG yneo_177 (Nat.le_of_ble_eq_true rfl) (y := 6) rfl ynch_177_6)
theorem ynez_181 : eL[181]? = some (1, 256) := by decide +kernel
theorem ynez_182 : eL[182]? = some (1, 2048) := by decide +kernel
theorem ynez_183 : eL[183]? = some (1, 7) := by decide +kernel
theorem wu_w183_183 : w183.testBit (cn 183) = true := by decide +kernel
theorem wu_wD9_181 : wD9.testBit (cn 181) = true := by decide +kernel
theorem wu_wD9_182 : wD9.testBit (cn 182) = true := by decide +kernel
theorem vlw_loop {set last : Nat} (hs : set < 256) (hl : last < 8) {d : Nat} (hd : 3 ≤ d) {g : pH} (hG : g_I eG g) {h tk : Nat → Int} {rt : Nat → Bool} (hh : ∀ w, 0 ≤ h w ∧ h w ≤ 99) (ht : ∀ t, 0 ≤ tk t ∧ tk t ≤ 99) (h2 : ∀ j, j < 8 → fA g 179 j = tk j) (hO : fA g 181 set = oO h rt set) (hV : ∀ v, v < 8 → set.testBit v = false → fA g 182 ((set ||| 2 ^ v) * 8 + v) = gV h tk rt (set ||| 2 ^ v) v) (hL : fA g 182 (set * 8 + last) = gV h tk rt set last) {ts : Nat} (t1 : 1 ≤ ts) (t2 : ts ≤ 7) (t3 : set.testBit (cpW last ts) = false) (t4 : gV h tk rt set last = gT h tk rt set last (cpW last ts)) (t6 : ∀ t, 1 ≤ t → t < ts → set.testBit (cpW last t) = false → gV h tk rt set last < gT h tk rt set last (cpW last t)) {P : Option pv × pH → Prop} (hP : P (some (oI (ts : Int)), g)) : ∀ (r t : Nat) (lv : List (Nat × pv)), ts - t < r → 1 ≤ t → t ≤ ts → px_lg lv 0 = some (pvR 177) → px_lg lv 1 = some (oI (set : Int)) → px_lg lv 2 = some (oI (last : Int)) → px_lg lv 3 = some (oI (t : Int)) → t_X d 105 2 lv [] g P := by
  have vb := gT_b (rt := rt) (last := last) hh ht hs (cpW_l last hl ts (by omega)) t3
  intro r
  induction r with
  | zero =>
    intro t lv hr h1 h3 l0 l1 l2 l3
    omega
  | succ r ih =>
    intro t lv hr h1 h3 l0 l1 l2 l3
    have ht8 : t < 8 := by omega
    have hn := cpW_l last hl t ht8
    cases qb : set.testBit (cpW last t) with
    | true =>
      refine t_0 vlw_2 rfl (ld_i l3) ?_
      refine t_0 vlw_3 rfl (pq_b (by decide)) ?_
      refine tb_ge vlw_5 (by decide) ⟨by omega, by omega⟩ ⟨by omega, by omega⟩ (fun c1 => absurd c1 (by omega)) (fun c1 => ?_)
      show t_X d 105 8 lv [] g P
      refine t_0 vlw_8 rfl (ld_i l2) ?_
      refine t_0 vlw_9 rfl (ld_i l3) ?_
      refine t_3 vlw_10 rfl (ar := ([oI ((last : Int)), oI ((t : Int))], [])) (pcal_s ⟨Or.inr rfl, rfl, Nat.le_of_ble_eq_true rfl⟩) ⟨by omega, Nat.le_of_ble_eq_true rfl, Nat.le_of_ble_eq_true rfl, rfl⟩ ?_
      refine vwt_run hl ht8 ?_ rfl rfl
      show t_X d 105 13 lv [oI (((cpW last t : Nat) : Int))] g P
      refine t_2 vlw_13 rfl (w := (px_s1 lv 4 (oI (((cpW last t : Nat) : Int))), [])) rfl ?_
      replace l0 : px_lg (px_s1 lv 4 (oI (((cpW last t : Nat) : Int)))) 0 = some (pvR 177) := s1_ne (by decide) (fun _ => rfl) l0
      replace l1 : px_lg (px_s1 lv 4 (oI (((cpW last t : Nat) : Int)))) 1 = some (oI ((set : Int))) := s1_ne (by decide) (fun _ => rfl) l1
      replace l2 : px_lg (px_s1 lv 4 (oI (((cpW last t : Nat) : Int)))) 2 = some (oI ((last : Int))) := s1_ne (by decide) (fun _ => rfl) l2
      replace l3 : px_lg (px_s1 lv 4 (oI (((cpW last t : Nat) : Int)))) 3 = some (oI ((t : Int))) := s1_ne (by decide) (fun _ => rfl) l3
      have l4 : px_lg (px_s1 lv 4 (oI (((cpW last t : Nat) : Int)))) 4 = some (oI (((cpW last t : Nat) : Int))) := s1_eq
      generalize px_s1 lv 4 (oI (((cpW last t : Nat) : Int))) = lv2 at l0 l1 l2 l3 l4 ⊢
      show t_X d 105 15 lv2 [] g P
      refine t_0 vlw_15 rfl (ld_i l1) ?_
      refine t_0 vlw_16 rfl (ld_i l4) ?_
      refine t_0 vlw_18 rfl rfl ?_
      refine t_0 vlw_19 rfl rfl ?_
      refine t_0 vlw_20 rfl (pq_hb (e := 1) (by rw [bt_n set hs _ hn, qb]; first | done | rfl)) ?_
      refine tz_ne vlw_21 (by decide) ⟨by omega, by omega⟩ (fun c3 => ?_) (fun c3 => absurd c3 (by omega))
      show t_X d 105 28 lv2 [] g P
      refine t_0 vlw_28 rfl rfl ?_
      refine t_2 vlw_29 rfl (w := (px_s1 lv2 5 (oI 0), [])) rfl ?_
      replace l0 : px_lg (px_s1 lv2 5 (oI 0)) 0 = some (pvR 177) := s1_ne (by decide) (fun _ => rfl) l0
      replace l1 : px_lg (px_s1 lv2 5 (oI 0)) 1 = some (oI ((set : Int))) := s1_ne (by decide) (fun _ => rfl) l1
      replace l2 : px_lg (px_s1 lv2 5 (oI 0)) 2 = some (oI ((last : Int))) := s1_ne (by decide) (fun _ => rfl) l2
      replace l3 : px_lg (px_s1 lv2 5 (oI 0)) 3 = some (oI ((t : Int))) := s1_ne (by decide) (fun _ => rfl) l3
      replace l4 : px_lg (px_s1 lv2 5 (oI 0)) 4 = some (oI (((cpW last t : Nat) : Int))) := s1_ne (by decide) (fun _ => rfl) l4
      have l5 : px_lg (px_s1 lv2 5 (oI 0)) 5 = some (oI 0) := s1_eq
      generalize px_s1 lv2 5 (oI 0) = lv4 at l0 l1 l2 l3 l4 l5 ⊢
      show t_X d 105 31 lv4 [] g P
      refine t_0 vlw_31 rfl (ld_i l5) ?_
      refine tz_eq vlw_33 (by decide) ⟨by omega, by omega⟩ (fun c5 => ?_) (fun c5 => absurd c5 (by omega))
      show t_X d 105 60 lv4 [] g P
      refine t_2 vlw_60 rfl (w := (px_s1 lv4 3 (oI ((t : Int) + 1)), [])) (pq_inc l3 (by decide)) ?_
      replace l0 : px_lg (px_s1 lv4 3 (oI ((t : Int) + 1))) 0 = some (pvR 177) := s1_ne (by decide) (fun _ => rfl) l0
      replace l1 : px_lg (px_s1 lv4 3 (oI ((t : Int) + 1))) 1 = some (oI ((set : Int))) := s1_ne (by decide) (fun _ => rfl) l1
      replace l2 : px_lg (px_s1 lv4 3 (oI ((t : Int) + 1))) 2 = some (oI ((last : Int))) := s1_ne (by decide) (fun _ => rfl) l2
      replace l4 : px_lg (px_s1 lv4 3 (oI ((t : Int) + 1))) 4 = some (oI (((cpW last t : Nat) : Int))) := s1_ne (by decide) (fun _ => rfl) l4
      replace l5 : px_lg (px_s1 lv4 3 (oI ((t : Int) + 1))) 5 = some (oI 0) := s1_ne (by decide) (fun _ => rfl) l5
      have l3 : px_lg (px_s1 lv4 3 (oI ((t : Int) + 1))) 3 = some (oI ((t : Int) + 1)) := s1_eq
      generalize px_s1 lv4 3 (oI ((t : Int) + 1)) = lv6 at l0 l1 l2 l4 l5 l3 ⊢
      show t_X d 105 63 lv6 [] g P
      refine t_1 vlw_63 rfl (pb_goto (pc := 63) (by decide)) ?_
      show t_X d 105 2 lv6 [] g P
      have ne : t ≠ ts := fun z => by rw [z, t3] at qb; cases qb
      exact ih (t + 1) _ (by omega) (by omega) (by omega) l0 l1 l2 l3
    | false =>
      have gb := gT_b (rt := rt) (last := last) hh ht hs hn qb
      refine t_0 vlw_2 rfl (ld_i l3) ?_
      refine t_0 vlw_3 rfl (pq_b (by decide)) ?_
      refine tb_ge vlw_5 (by decide) ⟨by omega, by omega⟩ ⟨by omega, by omega⟩ (fun c1 => absurd c1 (by omega)) (fun c1 => ?_)
      show t_X d 105 8 lv [] g P
      refine t_0 vlw_8 rfl (ld_i l2) ?_
      refine t_0 vlw_9 rfl (ld_i l3) ?_
      refine t_3 vlw_10 rfl (ar := ([oI ((last : Int)), oI ((t : Int))], [])) (pcal_s ⟨Or.inr rfl, rfl, Nat.le_of_ble_eq_true rfl⟩) ⟨by omega, Nat.le_of_ble_eq_true rfl, Nat.le_of_ble_eq_true rfl, rfl⟩ ?_
      refine vwt_run hl ht8 ?_ rfl rfl
      show t_X d 105 13 lv [oI (((cpW last t : Nat) : Int))] g P
      refine t_2 vlw_13 rfl (w := (px_s1 lv 4 (oI (((cpW last t : Nat) : Int))), [])) rfl ?_
      replace l0 : px_lg (px_s1 lv 4 (oI (((cpW last t : Nat) : Int)))) 0 = some (pvR 177) := s1_ne (by decide) (fun _ => rfl) l0
      replace l1 : px_lg (px_s1 lv 4 (oI (((cpW last t : Nat) : Int)))) 1 = some (oI ((set : Int))) := s1_ne (by decide) (fun _ => rfl) l1
      replace l2 : px_lg (px_s1 lv 4 (oI (((cpW last t : Nat) : Int)))) 2 = some (oI ((last : Int))) := s1_ne (by decide) (fun _ => rfl) l2
      replace l3 : px_lg (px_s1 lv 4 (oI (((cpW last t : Nat) : Int)))) 3 = some (oI ((t : Int))) := s1_ne (by decide) (fun _ => rfl) l3
      have l4 : px_lg (px_s1 lv 4 (oI (((cpW last t : Nat) : Int)))) 4 = some (oI (((cpW last t : Nat) : Int))) := s1_eq
      generalize px_s1 lv 4 (oI (((cpW last t : Nat) : Int))) = lv2 at l0 l1 l2 l3 l4 ⊢
      show t_X d 105 15 lv2 [] g P
      refine t_0 vlw_15 rfl (ld_i l1) ?_
      refine t_0 vlw_16 rfl (ld_i l4) ?_
      refine t_0 vlw_18 rfl rfl ?_
      refine t_0 vlw_19 rfl rfl ?_
      refine t_0 vlw_20 rfl (pq_hb (e := 0) (by rw [bt_n set hs _ hn, qb]; first | done | rfl)) ?_
      refine tz_ne vlw_21 (by decide) ⟨by omega, by omega⟩ (fun c3 => absurd c3 (by omega)) (fun c3 => ?_)
      show t_X d 105 24 lv2 [] g P
      refine t_0 vlw_24 rfl rfl ?_
      refine t_1 vlw_25 rfl (pb_goto (pc := 25) (by decide)) ?_
      show t_X d 105 29 lv2 [oI 1] g P
      refine t_2 vlw_29 rfl (w := (px_s1 lv2 5 (oI 1), [])) rfl ?_
      replace l0 : px_lg (px_s1 lv2 5 (oI 1)) 0 = some (pvR 177) := s1_ne (by decide) (fun _ => rfl) l0
      replace l1 : px_lg (px_s1 lv2 5 (oI 1)) 1 = some (oI ((set : Int))) := s1_ne (by decide) (fun _ => rfl) l1
      replace l2 : px_lg (px_s1 lv2 5 (oI 1)) 2 = some (oI ((last : Int))) := s1_ne (by decide) (fun _ => rfl) l2
      replace l3 : px_lg (px_s1 lv2 5 (oI 1)) 3 = some (oI ((t : Int))) := s1_ne (by decide) (fun _ => rfl) l3
      replace l4 : px_lg (px_s1 lv2 5 (oI 1)) 4 = some (oI (((cpW last t : Nat) : Int))) := s1_ne (by decide) (fun _ => rfl) l4
      have l5 : px_lg (px_s1 lv2 5 (oI 1)) 5 = some (oI 1) := s1_eq
      generalize px_s1 lv2 5 (oI 1) = lv4 at l0 l1 l2 l3 l4 l5 ⊢
      show t_X d 105 31 lv4 [] g P
      refine t_0 vlw_31 rfl (ld_i l5) ?_
      refine tz_eq vlw_33 (by decide) ⟨by omega, by omega⟩ (fun c5 => absurd c5 (by omega)) (fun c5 => ?_)
      show t_X d 105 36 lv4 [] g P
      refine t_0 vlw_36 rfl (ld_a l0) ?_
      refine t_0 vlw_37 rfl (ld_i l1) ?_
      refine t_0 vlw_38 rfl (ld_i l2) ?_
      refine t_0 vlw_39 rfl (ld_i l4) ?_
      refine t_3 vlw_41 rfl (ar := ([pvR 177, oI ((set : Int)), oI ((last : Int)), oI (((cpW last t : Nat) : Int))], [])) (pcal_w (as := [oI (((cpW last t : Nat) : Int)), oI ((last : Int)), oI ((set : Int))]) rfl rfl rfl yneo_177) ⟨by omega, Nat.le_of_ble_eq_true rfl, Nat.le_of_ble_eq_true rfl, rfl⟩ ?_
      refine vsb_run hs (cnt_o set hs _ hn qb).2.1 hl hn (by omega) hG h2 hO (hV _ hn qb) ?_ rfl rfl rfl rfl
      show t_X d 105 44 lv4 [oI (gT h tk rt set last (cpW last t))] g P
      refine t_0 vlw_44 rfl (ld_a l0) ?_
      refine t_0 vlw_45 rfl (yncq_177_5 hG) ?_
      show t_X d 105 48 lv4 [pvR 182, oI (gT h tk rt set last (cpW last t))] g P
      refine t_0 vlw_48 rfl (ld_i l1) ?_
      refine t_0 vlw_49 rfl (pq_b (by decide)) ?_
      refine t_0 vlw_51 rfl pq_mul ?_
      refine t_0 vlw_52 rfl (ld_i l2) ?_
      refine t_0 vlw_53 rfl pq_add ?_
      rw [show ((set : Int) * 8) + (last : Int) = ((set * 8 + last : Nat) : Int) by omega]
      refine t_0 vlw_54 rfl (pq_iw ynez_182 rfl ⟨by omega, by omega⟩ hL) ?_
      show t_X d 105 55 lv4 [oI (gV h tk rt set last), oI (gT h tk rt set last (cpW last t))] g P
      refine tb_ne vlw_55 (by decide) ⟨by omega, by omega⟩ ⟨by omega, by omega⟩ (fun c6 => ?_) (fun c6 => ?_)
      · show t_X d 105 60 lv4 [] g P
        refine t_2 vlw_60 rfl (w := (px_s1 lv4 3 (oI ((t : Int) + 1)), [])) (pq_inc l3 (by decide)) ?_
        replace l0 : px_lg (px_s1 lv4 3 (oI ((t : Int) + 1))) 0 = some (pvR 177) := s1_ne (by decide) (fun _ => rfl) l0
        replace l1 : px_lg (px_s1 lv4 3 (oI ((t : Int) + 1))) 1 = some (oI ((set : Int))) := s1_ne (by decide) (fun _ => rfl) l1
        replace l2 : px_lg (px_s1 lv4 3 (oI ((t : Int) + 1))) 2 = some (oI ((last : Int))) := s1_ne (by decide) (fun _ => rfl) l2
        replace l4 : px_lg (px_s1 lv4 3 (oI ((t : Int) + 1))) 4 = some (oI (((cpW last t : Nat) : Int))) := s1_ne (by decide) (fun _ => rfl) l4
        replace l5 : px_lg (px_s1 lv4 3 (oI ((t : Int) + 1))) 5 = some (oI 1) := s1_ne (by decide) (fun _ => rfl) l5
        have l3 : px_lg (px_s1 lv4 3 (oI ((t : Int) + 1))) 3 = some (oI ((t : Int) + 1)) := s1_eq
        generalize px_s1 lv4 3 (oI ((t : Int) + 1)) = lv7 at l0 l1 l2 l4 l5 l3 ⊢
        show t_X d 105 63 lv7 [] g P
        refine t_1 vlw_63 rfl (pb_goto (pc := 63) (by decide)) ?_
        show t_X d 105 2 lv7 [] g P
        have ne : t ≠ ts := fun z => by rw [z] at c6; omega
        exact ih (t + 1) _ (by omega) (by omega) (by omega) l0 l1 l2 l3
      · show t_X d 105 58 lv4 [] g P
        refine t_0 vlw_58 rfl (ld_i l3) ?_
        refine t_5 vlw_59 rfl rfl ?_
        rcases Nat.lt_or_ge t ts with z | z
        · have := t6 t h1 z qb
          omega
        · rw [show t = ts by omega]
          exact hP
theorem vlw_run {set last : Nat} (hs : set < 256) (hl : last < 8) {d : Nat} (hd : 3 ≤ d) {g : pH} (hG : g_I eG g) {h tk : Nat → Int} {rt : Nat → Bool} (hh : ∀ w, 0 ≤ h w ∧ h w ≤ 99) (ht : ∀ t, 0 ≤ tk t ∧ tk t ≤ 99) (h2 : ∀ j, j < 8 → fA g 179 j = tk j) (hO : fA g 181 set = oO h rt set) (hV : ∀ v, v < 8 → set.testBit v = false → fA g 182 ((set ||| 2 ^ v) * 8 + v) = gV h tk rt (set ||| 2 ^ v) v) (hL : fA g 182 (set * 8 + last) = gV h tk rt set last) {ts : Nat} (t1 : 1 ≤ ts) (t2 : ts ≤ 7) (t3 : set.testBit (cpW last ts) = false) (t4 : gV h tk rt set last = gT h tk rt set last (cpW last ts)) (t6 : ∀ t, 1 ≤ t → t < ts → set.testBit (cpW last t) = false → gV h tk rt set last < gT h tk rt set last (cpW last t)) {P : Option pv × pH → Prop} (hP : P (some (oI (ts : Int)), g)) {lv : List (Nat × pv)} (l0 : px_lg lv 0 = some (pvR 177)) (l1 : px_lg lv 1 = some (oI (set : Int))) (l2 : px_lg lv 2 = some (oI (last : Int))) : t_X d 105 0 lv [] g P := by
  refine t_0 vlw_0 rfl rfl ?_
  refine t_2 vlw_1 rfl (w := (px_s1 lv 3 (oI 1), [])) rfl ?_
  replace l0 : px_lg (px_s1 lv 3 (oI 1)) 0 = some (pvR 177) := s1_ne (by decide) (fun _ => rfl) l0
  replace l1 : px_lg (px_s1 lv 3 (oI 1)) 1 = some (oI ((set : Int))) := s1_ne (by decide) (fun _ => rfl) l1
  replace l2 : px_lg (px_s1 lv 3 (oI 1)) 2 = some (oI ((last : Int))) := s1_ne (by decide) (fun _ => rfl) l2
  have l3 : px_lg (px_s1 lv 3 (oI 1)) 3 = some (oI 1) := s1_eq
  generalize px_s1 lv 3 (oI 1) = lv1 at l0 l1 l2 l3 ⊢
  show t_X d 105 2 lv1 [] g P
  exact vlw_loop hs hl hd hG hh ht h2 hO hV hL t1 t2 t3 t4 t6 hP (ts + 1) 1 _ (by omega) (by omega) (by omega) l0 l1 l2 l3
theorem vly_loop {d : Nat} (hd : 4 ≤ d) {g0 : pH} {h tk : Nat → Int} {rt : Nat → Bool} (hh : ∀ w, 0 ≤ h w ∧ h w ≤ 99) (ht : ∀ t, 0 ≤ tk t ∧ tk t ≤ 99) (h2 : ∀ j, j < 8 → fA g0 179 j = tk j) (hO : ∀ s, s < 256 → s % 2 = 1 → fA g0 181 s = oO h rt s) (hV : ∀ s l, s < 256 → s % 2 = 1 → l < 8 → s.testBit l = true → fA g0 182 (s * 8 + l) = gV h tk rt s l) {P : Option pv × pH → Prop} (hP : ∀ (g : pH) (cr : Nat → Int), sE [] [183] w183 g0 g [] [cr] → (∀ i, i < 7 → cr i = (((gW h tk rt 1 0).getD i 0 : Nat) : Int)) → P (none, g)) : ∀ (n p set last : Nat) (g : pH) (cr : Nat → Int) (lv : List (Nat × pv)), 7 - p ≤ n → p ≤ 7 → set < 256 → set % 2 = 1 → last < 8 → set.testBit last = true → p + cntW set = 7 → sE [] [183] w183 g0 g [] [cr] → (∀ i, i < p → cr i = (((gW h tk rt 1 0).getD i 0 : Nat) : Int)) → (∀ j, (gW h tk rt 1 0).getD (p + j) 0 = (gW h tk rt set last).getD j 0) → px_lg lv 0 = some (pvR 177) → px_lg lv 1 = some (oI (set : Int)) → px_lg lv 2 = some (oI (last : Int)) → px_lg lv 3 = some (oI (p : Int)) → t_X d 103 6 lv [] g P := by
  intro n
  induction n with
  | zero =>
    intro p set last g cr lv hr hp2 hs ho hl hb hc2 hS hc hW l0 l1 l2 l3
    refine t_0 vly_6 rfl (ld_i l3) ?_
    refine t_0 vly_7 rfl (pq_b (by decide)) ?_
    refine tb_ge vly_9 (by decide) ⟨by omega, by omega⟩ ⟨by omega, by omega⟩ (fun c1 => ?_) (fun c1 => absurd c1 (by omega))
    show t_X d 103 47 lv [] g P
    refine t_5 vly_47 rfl rfl ?_
    obtain rfl : p = 7 := by omega
    exact hP g cr hS hc
  | succ n ih =>
    intro p set last g cr lv hr hp2 hs ho hl hb hc2 hS hc hW l0 l1 l2 l3
    by_cases hp : p < 7
    · obtain ⟨-, -, -, -, g5⟩ := gG_s (rt := rt) hh ht (cntW set) set last hs hl hb rfl
      obtain ⟨-, ts, t1, t2, t3, t4, t5, t6⟩ := g5 (by omega)
      have hn := cpW_l last hl ts (by omega)
      obtain ⟨y1, y2, y3, y4⟩ := odd_o hs ho hn t3
      have y5 := (cnt_o set hs _ hn t3).1
      refine t_0 vly_6 rfl (ld_i l3) ?_
      refine t_0 vly_7 rfl (pq_b (by decide)) ?_
      refine tb_ge vly_9 (by decide) ⟨by omega, by omega⟩ ⟨by omega, by omega⟩ (fun c1 => absurd c1 (by omega)) (fun c1 => ?_)
      show t_X d 103 12 lv [] g P
      refine t_0 vly_12 rfl (ld_a l0) ?_
      refine t_0 vly_13 rfl (ld_i l1) ?_
      refine t_0 vly_14 rfl (ld_i l2) ?_
      refine t_3 vly_15 rfl (ar := ([pvR 177, oI ((set : Int)), oI ((last : Int))], [])) (pcal_w (as := [oI ((last : Int)), oI ((set : Int))]) rfl rfl rfl yneo_177) ⟨by omega, Nat.le_of_ble_eq_true rfl, Nat.le_of_ble_eq_true rfl, rfl⟩ ?_
      have M9 := (S_J hS).2
      refine vlw_run hs hl (by omega) (S_J hS).1 hh ht (fun j hj => (congrFun (fA_M M9 wY_n.1) j).trans (h2 j hj)) ((congrFun (fA_M M9 wY_n.2.1) set).trans (hO set hs ho)) (fun v hv hf => (congrFun (fA_M M9 wY_n.2.2) _).trans (by obtain ⟨x1, x2, x3, x4⟩ := odd_o hs ho hv hf; exact hV _ v x1 x2 hv x4)) ((congrFun (fA_M M9 wY_n.2.2) _).trans (hV set last hs ho hl hb)) t1 t2 t3 t4 t6 ?_ rfl rfl rfl
      show t_X d 103 18 lv [oI ((ts : Int))] g P
      refine t_2 vly_18 rfl (w := (px_s1 lv 4 (oI ((ts : Int))), [])) rfl ?_
      replace l0 : px_lg (px_s1 lv 4 (oI ((ts : Int)))) 0 = some (pvR 177) := s1_ne (by decide) (fun _ => rfl) l0
      replace l1 : px_lg (px_s1 lv 4 (oI ((ts : Int)))) 1 = some (oI ((set : Int))) := s1_ne (by decide) (fun _ => rfl) l1
      replace l2 : px_lg (px_s1 lv 4 (oI ((ts : Int)))) 2 = some (oI ((last : Int))) := s1_ne (by decide) (fun _ => rfl) l2
      replace l3 : px_lg (px_s1 lv 4 (oI ((ts : Int)))) 3 = some (oI ((p : Int))) := s1_ne (by decide) (fun _ => rfl) l3
      have l4 : px_lg (px_s1 lv 4 (oI ((ts : Int)))) 4 = some (oI ((ts : Int))) := s1_eq
      generalize px_s1 lv 4 (oI ((ts : Int))) = lv2 at l0 l1 l2 l3 l4 ⊢
      show t_X d 103 20 lv2 [] g P
      refine t_0 vly_20 rfl (ld_a l0) ?_
      refine t_0 vly_21 rfl (yncq_177_6 (S_J hS).1) ?_
      show t_X d 103 24 lv2 [pvR 183] g P
      refine t_0 vly_24 rfl (ld_i l3) ?_
      refine t_0 vly_25 rfl (ld_i l4) ?_
      refine ts_a (n := 0) rfl rfl (by decide) vly_27 hS ynez_183 rfl wu_w183_183 yngu_183 (by decide) ⟨by omega, by omega⟩ ⟨by omega, by omega⟩ (fun g3 hS3 => ?_)
      replace hS3 : sE [] [183] w183 g0 g3 [] [updI cr (p : Int).toNat (ts : Int)] := hS3
      obtain ⟨c183_6, ec183_6⟩ : ∃ z : Nat → Int, z = updI cr (p : Int).toNat (ts : Int) := ⟨_, rfl⟩
      rw [← ec183_6] at hS3
      replace hS3 : sE [] [183] w183 g0 g3 [] [c183_6] := hS3
      have fc183_6 : c183_6 p = (ts : Int) := by rw [ec183_6]; exact if_pos rfl
      have nc183_6 : ∀ j, j ≠ p → c183_6 j = cr j := fun j hj => by rw [ec183_6]; exact if_neg hj
      show t_X d 103 28 lv2 [] g3 P
      refine t_0 vly_28 rfl (ld_i l2) ?_
      refine t_0 vly_29 rfl (ld_i l4) ?_
      refine t_3 vly_31 rfl (ar := ([oI ((last : Int)), oI ((ts : Int))], [])) (pcal_s ⟨Or.inr rfl, rfl, Nat.le_of_ble_eq_true rfl⟩) ⟨by omega, Nat.le_of_ble_eq_true rfl, Nat.le_of_ble_eq_true rfl, rfl⟩ ?_
      refine vwt_run hl (by omega) ?_ rfl rfl
      show t_X d 103 34 lv2 [oI (((cpW last ts : Nat) : Int))] g3 P
      refine t_2 vly_34 rfl (w := (px_s1 lv2 2 (oI (((cpW last ts : Nat) : Int))), [])) rfl ?_
      replace l0 : px_lg (px_s1 lv2 2 (oI (((cpW last ts : Nat) : Int)))) 0 = some (pvR 177) := s1_ne (by decide) (fun _ => rfl) l0
      replace l1 : px_lg (px_s1 lv2 2 (oI (((cpW last ts : Nat) : Int)))) 1 = some (oI ((set : Int))) := s1_ne (by decide) (fun _ => rfl) l1
      replace l3 : px_lg (px_s1 lv2 2 (oI (((cpW last ts : Nat) : Int)))) 3 = some (oI ((p : Int))) := s1_ne (by decide) (fun _ => rfl) l3
      replace l4 : px_lg (px_s1 lv2 2 (oI (((cpW last ts : Nat) : Int)))) 4 = some (oI ((ts : Int))) := s1_ne (by decide) (fun _ => rfl) l4
      have l2 : px_lg (px_s1 lv2 2 (oI (((cpW last ts : Nat) : Int)))) 2 = some (oI (((cpW last ts : Nat) : Int))) := s1_eq
      generalize px_s1 lv2 2 (oI (((cpW last ts : Nat) : Int))) = lv4 at l0 l1 l3 l4 l2 ⊢
      show t_X d 103 35 lv4 [] g3 P
      refine t_0 vly_35 rfl (ld_i l1) ?_
      refine t_0 vly_36 rfl rfl ?_
      refine t_0 vly_37 rfl (ld_i l2) ?_
      refine t_0 vly_38 rfl rfl ?_
      refine t_0 vly_39 rfl (pq_ho (or_n hn)) ?_
      refine t_2 vly_40 rfl (w := (px_s1 lv4 1 (oI (((set ||| 2 ^ cpW last ts : Nat) : Int))), [])) rfl ?_
      replace l0 : px_lg (px_s1 lv4 1 (oI (((set ||| 2 ^ cpW last ts : Nat) : Int)))) 0 = some (pvR 177) := s1_ne (by decide) (fun _ => rfl) l0
      replace l3 : px_lg (px_s1 lv4 1 (oI (((set ||| 2 ^ cpW last ts : Nat) : Int)))) 3 = some (oI ((p : Int))) := s1_ne (by decide) (fun _ => rfl) l3
      replace l4 : px_lg (px_s1 lv4 1 (oI (((set ||| 2 ^ cpW last ts : Nat) : Int)))) 4 = some (oI ((ts : Int))) := s1_ne (by decide) (fun _ => rfl) l4
      replace l2 : px_lg (px_s1 lv4 1 (oI (((set ||| 2 ^ cpW last ts : Nat) : Int)))) 2 = some (oI (((cpW last ts : Nat) : Int))) := s1_ne (by decide) (fun _ => rfl) l2
      have l1 : px_lg (px_s1 lv4 1 (oI (((set ||| 2 ^ cpW last ts : Nat) : Int)))) 1 = some (oI (((set ||| 2 ^ cpW last ts : Nat) : Int))) := s1_eq
      generalize px_s1 lv4 1 (oI (((set ||| 2 ^ cpW last ts : Nat) : Int))) = lv5 at l0 l3 l4 l2 l1 ⊢
      show t_X d 103 41 lv5 [] g3 P
      refine t_2 vly_41 rfl (w := (px_s1 lv5 3 (oI ((p : Int) + 1)), [])) (pq_inc l3 (by decide)) ?_
      replace l0 : px_lg (px_s1 lv5 3 (oI ((p : Int) + 1))) 0 = some (pvR 177) := s1_ne (by decide) (fun _ => rfl) l0
      replace l4 : px_lg (px_s1 lv5 3 (oI ((p : Int) + 1))) 4 = some (oI ((ts : Int))) := s1_ne (by decide) (fun _ => rfl) l4
      replace l2 : px_lg (px_s1 lv5 3 (oI ((p : Int) + 1))) 2 = some (oI (((cpW last ts : Nat) : Int))) := s1_ne (by decide) (fun _ => rfl) l2
      replace l1 : px_lg (px_s1 lv5 3 (oI ((p : Int) + 1))) 1 = some (oI (((set ||| 2 ^ cpW last ts : Nat) : Int))) := s1_ne (by decide) (fun _ => rfl) l1
      have l3 : px_lg (px_s1 lv5 3 (oI ((p : Int) + 1))) 3 = some (oI ((p : Int) + 1)) := s1_eq
      generalize px_s1 lv5 3 (oI ((p : Int) + 1)) = lv6 at l0 l4 l2 l1 l3 ⊢
      show t_X d 103 44 lv6 [] g3 P
      refine t_1 vly_44 rfl (pb_goto (pc := 44) (by decide)) ?_
      show t_X d 103 6 lv6 [] g3 P
      refine ih (p + 1) (set ||| 2 ^ cpW last ts) (cpW last ts) g3 c183_6 _ (by omega) (by omega) y1 y2 hn y4 (by omega) hS3 (fun i hi => ?_) (fun j => ?_) l0 l1 l2 l3
      · by_cases z : i = p
        · rw [z, fc183_6]
          have := hW 0
          rw [Nat.add_zero, t5] at this
          rw [this]
          rfl
        · rw [nc183_6 i z]
          exact hc i (by omega)
      · have := hW (j + 1)
        rw [t5] at this
        rw [show p + 1 + j = p + (j + 1) by omega, this]
        rfl
    · skip
      refine t_0 vly_6 rfl (ld_i l3) ?_
      refine t_0 vly_7 rfl (pq_b (by decide)) ?_
      refine tb_ge vly_9 (by decide) ⟨by omega, by omega⟩ ⟨by omega, by omega⟩ (fun c1 => ?_) (fun c1 => absurd c1 (by omega))
      show t_X d 103 47 lv [] g P
      refine t_5 vly_47 rfl rfl ?_
      obtain rfl : p = 7 := by omega
      exact hP g cr hS hc
theorem vly_run {d : Nat} (hd : 4 ≤ d) {g0 : pH} {h tk : Nat → Int} {rt : Nat → Bool} (hh : ∀ w, 0 ≤ h w ∧ h w ≤ 99) (ht : ∀ t, 0 ≤ tk t ∧ tk t ≤ 99) (h2 : ∀ j, j < 8 → fA g0 179 j = tk j) (hO : ∀ s, s < 256 → s % 2 = 1 → fA g0 181 s = oO h rt s) (hV : ∀ s l, s < 256 → s % 2 = 1 → l < 8 → s.testBit l = true → fA g0 182 (s * 8 + l) = gV h tk rt s l) {P : Option pv × pH → Prop} (hP : ∀ (g : pH) (cr : Nat → Int), sE [] [183] w183 g0 g [] [cr] → (∀ i, i < 7 → cr i = (((gW h tk rt 1 0).getD i 0 : Nat) : Int)) → P (none, g)) (hG : g_I eG g0) {lv : List (Nat × pv)} (l0 : px_lg lv 0 = some (pvR 177)) : t_X d 103 0 lv [] g0 P := by
  have hS : sE [] [183] w183 g0 g0 [] [fA g0 183] := S_0 hG
  refine t_0 vly_0 rfl rfl ?_
  refine t_2 vly_1 rfl (w := (px_s1 lv 1 (oI 1), [])) rfl ?_
  replace l0 : px_lg (px_s1 lv 1 (oI 1)) 0 = some (pvR 177) := s1_ne (by decide) (fun _ => rfl) l0
  have l1 : px_lg (px_s1 lv 1 (oI 1)) 1 = some (oI 1) := s1_eq
  generalize px_s1 lv 1 (oI 1) = lv1 at l0 l1 ⊢
  show t_X d 103 2 lv1 [] g0 P
  refine t_0 vly_2 rfl rfl ?_
  refine t_2 vly_3 rfl (w := (px_s1 lv1 2 (oI 0), [])) rfl ?_
  replace l0 : px_lg (px_s1 lv1 2 (oI 0)) 0 = some (pvR 177) := s1_ne (by decide) (fun _ => rfl) l0
  replace l1 : px_lg (px_s1 lv1 2 (oI 0)) 1 = some (oI 1) := s1_ne (by decide) (fun _ => rfl) l1
  have l2 : px_lg (px_s1 lv1 2 (oI 0)) 2 = some (oI 0) := s1_eq
  generalize px_s1 lv1 2 (oI 0) = lv2 at l0 l1 l2 ⊢
  show t_X d 103 4 lv2 [] g0 P
  refine t_0 vly_4 rfl rfl ?_
  refine t_2 vly_5 rfl (w := (px_s1 lv2 3 (oI 0), [])) rfl ?_
  replace l0 : px_lg (px_s1 lv2 3 (oI 0)) 0 = some (pvR 177) := s1_ne (by decide) (fun _ => rfl) l0
  replace l1 : px_lg (px_s1 lv2 3 (oI 0)) 1 = some (oI 1) := s1_ne (by decide) (fun _ => rfl) l1
  replace l2 : px_lg (px_s1 lv2 3 (oI 0)) 2 = some (oI 0) := s1_ne (by decide) (fun _ => rfl) l2
  have l3 : px_lg (px_s1 lv2 3 (oI 0)) 3 = some (oI 0) := s1_eq
  generalize px_s1 lv2 3 (oI 0) = lv3 at l0 l1 l2 l3 ⊢
  show t_X d 103 6 lv3 [] g0 P
  exact vly_loop hd hh ht h2 hO hV hP 7 0 1 0 g0 (fA g0 183) _ (by omega) (by omega) (by decide) rfl (by decide) rfl rfl hS (fun i hi => absurd hi (Nat.not_lt_zero i)) (fun j => by rw [Nat.zero_add]) l0 l1 l2 l3
theorem vfi_in {d : Nat} (hd : 5 ≤ d) {g0 : pH} {h tk : Nat → Int} {rt : Nat → Bool} (hh : ∀ w, 0 ≤ h w ∧ h w ≤ 99) (ht : ∀ t, 0 ≤ tk t ∧ tk t ≤ 99) (h1 : ∀ j, j < 8 → fA g0 178 j = h j) (h2 : ∀ j, j < 8 → fA g0 179 j = tk j) (h3 : ∀ j, j < 8 → fA g0 180 j = ((rB (fun u => rt (cpW u j)) 8 : Nat) : Int)) {P : Option pv × pH → Prop} {set : Nat} (hs : set < 256) (ho : set % 2 = 1) {co : Nat → Int} (hco : co set = oO h rt set) (hP : ∀ (g : pH) (cf : Nat → Int) (lv : List (Nat × pv)), sE [] [181, 182] wD9 g0 g [] [co, cf] → (∀ s, s < 256 → s % 2 = 1 → set < s → ∀ l, l < 8 → s.testBit l = true → cf (s * 8 + l) = gV h tk rt s l) → (∀ l, l < 8 → set.testBit l = true → cf (set * 8 + l) = gV h tk rt set l) → px_lg lv 0 = some (pvR 177) → px_lg lv 3 = some (oI (set : Int)) → t_X d 101 77 lv [] g P) : ∀ (r last : Nat) (g : pH) (cf : Nat → Int) (lv : List (Nat × pv)), 8 - last ≤ r → last ≤ 8 → sE [] [181, 182] wD9 g0 g [] [co, cf] → (∀ s, s < 256 → s % 2 = 1 → set < s → ∀ l, l < 8 → s.testBit l = true → cf (s * 8 + l) = gV h tk rt s l) → (∀ l, l < last → set.testBit l = true → cf (set * 8 + l) = gV h tk rt set l) → px_lg lv 0 = some (pvR 177) → px_lg lv 3 = some (oI (set : Int)) → px_lg lv 4 = some (oI (last : Int)) → t_X d 101 36 lv [] g P := by
  intro r
  induction r with
  | zero =>
    intro last g cf lv hr hl2 hS hD hE l0 l3 l4
    refine t_0 vfi_36 rfl (ld_i l4) ?_
    refine t_0 vfi_38 rfl (pq_b (by decide)) ?_
    refine tb_ge vfi_40 (by decide) ⟨by omega, by omega⟩ ⟨by omega, by omega⟩ (fun c1 => ?_) (fun c1 => absurd c1 (by omega))
    show t_X d 101 77 lv [] g P
    obtain rfl : last = 8 := by omega
    exact hP g cf _ hS hD hE l0 l3
  | succ r ih =>
    intro last g cf lv hr hl2 hS hD hE l0 l3 l4
    by_cases hl : last < 8
    · cases qb : set.testBit last with
      | true =>
        have vb := gV_b (rt := rt) hh ht hs hl qb
        refine t_0 vfi_36 rfl (ld_i l4) ?_
        refine t_0 vfi_38 rfl (pq_b (by decide)) ?_
        refine tb_ge vfi_40 (by decide) ⟨by omega, by omega⟩ ⟨by omega, by omega⟩ (fun c1 => absurd c1 (by omega)) (fun c1 => ?_)
        show t_X d 101 43 lv [] g P
        refine t_0 vfi_43 rfl (ld_i l3) ?_
        refine t_0 vfi_44 rfl (ld_i l4) ?_
        refine t_0 vfi_46 rfl rfl ?_
        refine t_0 vfi_47 rfl rfl ?_
        refine t_0 vfi_48 rfl (pq_hb (e := 1) (by rw [bt_n set hs last hl, qb]; first | done | rfl)) ?_
        refine tz_eq vfi_49 (by decide) ⟨by omega, by omega⟩ (fun c2 => absurd c2 (by omega)) (fun c2 => ?_)
        show t_X d 101 52 lv [] g P
        refine t_0 vfi_52 rfl (ld_a l0) ?_
        refine t_0 vfi_53 rfl (yncq_177_5 (S_J hS).1) ?_
        show t_X d 101 56 lv [pvR 182] g P
        refine t_0 vfi_56 rfl (ld_i l3) ?_
        refine t_0 vfi_57 rfl (pq_b (by decide)) ?_
        refine t_0 vfi_59 rfl pq_mul ?_
        refine t_0 vfi_60 rfl (ld_i l4) ?_
        refine t_0 vfi_62 rfl pq_add ?_
        rw [show ((set : Int) * 8) + (last : Int) = ((set * 8 + last : Nat) : Int) by omega]
        refine t_0 vfi_63 rfl (ld_a l0) ?_
        refine t_0 vfi_64 rfl (ld_i l3) ?_
        refine t_0 vfi_65 rfl (ld_i l4) ?_
        refine t_3 vfi_67 rfl (ar := ([pvR 177, oI ((set : Int)), oI ((last : Int))], [oI (((set * 8 + last : Nat) : Int)), pvR 182])) (pcal_w (as := [oI ((last : Int)), oI ((set : Int))]) rfl rfl rfl yneo_177) ⟨by omega, Nat.le_of_ble_eq_true rfl, Nat.le_of_ble_eq_true rfl, rfl⟩ ?_
        have M9 := (S_J hS).2
        refine vff_run hs hl qb (by omega) (S_J hS).1 hh ht (fun j hj => (congrFun (fA_M M9 wD_n.1.2.1) j).trans (h2 j hj)) ((congrFun (show fA g 181 = co from S_a hS 0 (Nat.le_of_ble_eq_true rfl)) set).trans hco) (fun v hv hf => (congrFun (show fA g 182 = cf from S_a hS 1 (Nat.le_of_ble_eq_true rfl)) _).trans (by obtain ⟨x1, x2, x3, x4⟩ := odd_o hs ho hv hf; exact hD _ x1 x2 x3 v hv x4)) ?_ rfl rfl rfl
        show t_X d 101 70 lv [oI (gV h tk rt set last), oI (((set * 8 + last : Nat) : Int)), pvR 182] g P
        refine ts_a (n := 1) rfl rfl (by decide) vfi_70 hS ynez_182 rfl wu_wD9_182 yngu_182 (by decide) ⟨by omega, by omega⟩ ⟨by omega, by omega⟩ (fun g3 hS3 => ?_)
        replace hS3 : sE [] [181, 182] wD9 g0 g3 [] [co, updI cf ((set * 8 + last : Nat) : Int).toNat (gV h tk rt set last)] := hS3
        obtain ⟨c182_7, ec182_7⟩ : ∃ z : Nat → Int, z = updI cf ((set * 8 + last : Nat) : Int).toNat (gV h tk rt set last) := ⟨_, rfl⟩
        rw [← ec182_7] at hS3
        replace hS3 : sE [] [181, 182] wD9 g0 g3 [] [co, c182_7] := hS3
        have fc182_7 : c182_7 (set * 8 + last : Nat) = gV h tk rt set last := by rw [ec182_7]; exact if_pos rfl
        have nc182_7 : ∀ j, j ≠ (set * 8 + last : Nat) → c182_7 j = cf j := fun j hj => by rw [ec182_7]; exact if_neg hj
        show t_X d 101 71 lv [] g3 P
        refine t_2 vfi_71 rfl (w := (px_s1 lv 4 (oI ((last : Int) + 1)), [])) (pq_inc l4 (by decide)) ?_
        replace l0 : px_lg (px_s1 lv 4 (oI ((last : Int) + 1))) 0 = some (pvR 177) := s1_ne (by decide) (fun _ => rfl) l0
        replace l3 : px_lg (px_s1 lv 4 (oI ((last : Int) + 1))) 3 = some (oI ((set : Int))) := s1_ne (by decide) (fun _ => rfl) l3
        have l4 : px_lg (px_s1 lv 4 (oI ((last : Int) + 1))) 4 = some (oI ((last : Int) + 1)) := s1_eq
        generalize px_s1 lv 4 (oI ((last : Int) + 1)) = lv4 at l0 l3 l4 ⊢
        show t_X d 101 74 lv4 [] g3 P
        refine t_1 vfi_74 rfl (pb_goto (pc := 74) (by decide)) ?_
        show t_X d 101 36 lv4 [] g3 P
        refine ih (last + 1) g3 c182_7 _ (by omega) (by omega) hS3 (fun s2 x1 x2 x3 l x4 x5 => ?_) (fun l x1 x2 => ?_) l0 l3 l4
        · rw [nc182_7 _ (by omega)]
          exact hD s2 x1 x2 x3 l x4 x5
        · by_cases z : l = last
          · rw [z, fc182_7]
          · rw [nc182_7 _ (by omega)]
            exact hE l (by omega) x2
      | false =>
        refine t_0 vfi_36 rfl (ld_i l4) ?_
        refine t_0 vfi_38 rfl (pq_b (by decide)) ?_
        refine tb_ge vfi_40 (by decide) ⟨by omega, by omega⟩ ⟨by omega, by omega⟩ (fun c1 => absurd c1 (by omega)) (fun c1 => ?_)
        show t_X d 101 43 lv [] g P
        refine t_0 vfi_43 rfl (ld_i l3) ?_
        refine t_0 vfi_44 rfl (ld_i l4) ?_
        refine t_0 vfi_46 rfl rfl ?_
        refine t_0 vfi_47 rfl rfl ?_
        refine t_0 vfi_48 rfl (pq_hb (e := 0) (by rw [bt_n set hs last hl, qb]; first | done | rfl)) ?_
        refine tz_eq vfi_49 (by decide) ⟨by omega, by omega⟩ (fun c2 => ?_) (fun c2 => absurd c2 (by omega))
        show t_X d 101 71 lv [] g P
        refine t_2 vfi_71 rfl (w := (px_s1 lv 4 (oI ((last : Int) + 1)), [])) (pq_inc l4 (by decide)) ?_
        replace l0 : px_lg (px_s1 lv 4 (oI ((last : Int) + 1))) 0 = some (pvR 177) := s1_ne (by decide) (fun _ => rfl) l0
        replace l3 : px_lg (px_s1 lv 4 (oI ((last : Int) + 1))) 3 = some (oI ((set : Int))) := s1_ne (by decide) (fun _ => rfl) l3
        have l4 : px_lg (px_s1 lv 4 (oI ((last : Int) + 1))) 4 = some (oI ((last : Int) + 1)) := s1_eq
        generalize px_s1 lv 4 (oI ((last : Int) + 1)) = lv3 at l0 l3 l4 ⊢
        show t_X d 101 74 lv3 [] g P
        refine t_1 vfi_74 rfl (pb_goto (pc := 74) (by decide)) ?_
        show t_X d 101 36 lv3 [] g P
        refine ih (last + 1) g cf _ (by omega) (by omega) hS hD (fun l x1 x2 => ?_) l0 l3 l4
        by_cases z : l = last
        · rw [z, qb] at x2
          cases x2
        · exact hE l (by omega) x2
    · skip
      refine t_0 vfi_36 rfl (ld_i l4) ?_
      refine t_0 vfi_38 rfl (pq_b (by decide)) ?_
      refine tb_ge vfi_40 (by decide) ⟨by omega, by omega⟩ ⟨by omega, by omega⟩ (fun c1 => ?_) (fun c1 => absurd c1 (by omega))
      show t_X d 101 77 lv [] g P
      obtain rfl : last = 8 := by omega
      exact hP g cf _ hS hD hE l0 l3
theorem vfi_out {d : Nat} (hd : 5 ≤ d) {g0 : pH} {h tk : Nat → Int} {rt : Nat → Bool} (hh : ∀ w, 0 ≤ h w ∧ h w ≤ 99) (ht : ∀ t, 0 ≤ tk t ∧ tk t ≤ 99) (h1 : ∀ j, j < 8 → fA g0 178 j = h j) (h2 : ∀ j, j < 8 → fA g0 179 j = tk j) (h3 : ∀ j, j < 8 → fA g0 180 j = ((rB (fun u => rt (cpW u j)) 8 : Nat) : Int)) {P : Option pv × pH → Prop} (hP : ∀ (g : pH) (co cf : Nat → Int) (lv : List (Nat × pv)), sE [] [181, 182] wD9 g0 g [] [co, cf] → (∀ s, s < 256 → s % 2 = 1 → co s = oO h rt s ∧ ∀ l, l < 8 → s.testBit l = true → cf (s * 8 + l) = gV h tk rt s l) → px_lg lv 0 = some (pvR 177) → t_X d 101 83 lv [] g P) : ∀ (r : Nat) (g : pH) (co cf : Nat → Int) (lv : List (Nat × pv)), r ≤ 128 → sE [] [181, 182] wD9 g0 g [] [co, cf] → (∀ s, s < 256 → s % 2 = 1 → 2 * r ≤ s → co s = oO h rt s ∧ ∀ l, l < 8 → s.testBit l = true → cf (s * 8 + l) = gV h tk rt s l) → px_lg lv 0 = some (pvR 177) → px_lg lv 3 = some (oI (2 * (r : Int) - 1)) → t_X d 101 18 lv [] g P := by
  intro r
  induction r with
  | zero =>
    intro g co cf lv hr hS hD l0 l3
    have l3 : px_lg lv 3 = some (oI (-1)) := l3
    refine t_0 vfi_18 rfl (ld_i l3) ?_
    refine tz_le vfi_19 (by decide) ⟨by omega, by omega⟩ (fun c1 => ?_) (fun c1 => absurd c1 (by omega))
    show t_X d 101 83 lv [] g P
    exact hP g co cf _ hS (fun s2 x1 x2 => hD s2 x1 x2 (by omega)) l0
  | succ r ih =>
    intro g co cf lv hr hS hD l0 l3
    obtain ⟨set, es⟩ : ∃ s : Nat, s = 2 * r + 1 := ⟨_, rfl⟩
    rw [show 2 * ((r + 1 : Nat) : Int) - 1 = (set : Int) by omega] at l3
    have hs : set < 256 := by omega
    have ho : set % 2 = 1 := by omega
    have ob := oO_b (rt := rt) hh set
    refine t_0 vfi_18 rfl (ld_i l3) ?_
    refine tz_le vfi_19 (by decide) ⟨by omega, by omega⟩ (fun c1 => absurd c1 (by omega)) (fun c1 => ?_)
    show t_X d 101 22 lv [] g P
    refine t_0 vfi_22 rfl (ld_a l0) ?_
    refine t_0 vfi_23 rfl (yncq_177_4 (S_J hS).1) ?_
    show t_X d 101 26 lv [pvR 181] g P
    refine t_0 vfi_26 rfl (ld_i l3) ?_
    refine t_0 vfi_27 rfl (ld_a l0) ?_
    refine t_0 vfi_28 rfl (ld_i l3) ?_
    refine t_3 vfi_29 rfl (ar := ([pvR 177, oI ((set : Int))], [oI ((set : Int)), pvR 181])) (pcal_w (as := [oI ((set : Int))]) rfl rfl rfl yneo_177) ⟨by omega, Nat.le_of_ble_eq_true rfl, Nat.le_of_ble_eq_true rfl, rfl⟩ ?_
    have M9 := (S_J hS).2
    refine vnr_run (h := h) (rt := rt) hs (S_J hS).1 (fun j hj => (congrFun (fA_M M9 wD_n.1.1) j).trans (h1 j hj)) (fun j hj => (congrFun (fA_M M9 wD_n.1.2.2.1) j).trans (h3 j hj)) ?_ rfl rfl
    show t_X d 101 32 lv [oI (oO h rt set), oI ((set : Int)), pvR 181] g P
    refine ts_a (n := 0) rfl rfl (by decide) vfi_32 hS ynez_181 rfl wu_wD9_181 yngu_181 (by decide) ⟨by omega, by omega⟩ ⟨by omega, by omega⟩ (fun g2 hS2 => ?_)
    replace hS2 : sE [] [181, 182] wD9 g0 g2 [] [updI co (set : Int).toNat (oO h rt set), cf] := hS2
    obtain ⟨c181_8, ec181_8⟩ : ∃ z : Nat → Int, z = updI co (set : Int).toNat (oO h rt set) := ⟨_, rfl⟩
    rw [← ec181_8] at hS2
    replace hS2 : sE [] [181, 182] wD9 g0 g2 [] [c181_8, cf] := hS2
    have fc181_8 : c181_8 set = oO h rt set := by rw [ec181_8]; exact if_pos rfl
    have nc181_8 : ∀ j, j ≠ set → c181_8 j = co j := fun j hj => by rw [ec181_8]; exact if_neg hj
    show t_X d 101 33 lv [] g2 P
    refine t_0 vfi_33 rfl rfl ?_
    refine t_2 vfi_34 rfl (w := (px_s1 lv 4 (oI 0), [])) rfl ?_
    replace l0 : px_lg (px_s1 lv 4 (oI 0)) 0 = some (pvR 177) := s1_ne (by decide) (fun _ => rfl) l0
    replace l3 : px_lg (px_s1 lv 4 (oI 0)) 3 = some (oI ((set : Int))) := s1_ne (by decide) (fun _ => rfl) l3
    have l4 : px_lg (px_s1 lv 4 (oI 0)) 4 = some (oI 0) := s1_eq
    generalize px_s1 lv 4 (oI 0) = lv3 at l0 l3 l4 ⊢
    show t_X d 101 36 lv3 [] g2 P
    refine vfi_in hd hh ht h1 h2 h3 hs ho (co := c181_8) fc181_8 (fun g9 cf9 lv9 hS9 hD9 hE9 l0 l3 => ?_) 8 0 g2 cf _ (by omega) (by omega) hS2 (fun s2 x1 x2 x3 => (hD s2 x1 x2 (by omega)).2) (fun l x1 x2 => absurd x1 (Nat.not_lt_zero l)) l0 l3 l4
    show t_X d 101 77 lv9 [] g9 P
    refine t_2 vfi_77 rfl (w := (px_s1 lv9 3 (oI ((set : Int) + (-2))), [])) (pq_inc l3 (by decide)) ?_
    replace l0 : px_lg (px_s1 lv9 3 (oI ((set : Int) + (-2)))) 0 = some (pvR 177) := s1_ne (by decide) (fun _ => rfl) l0
    have l3 : px_lg (px_s1 lv9 3 (oI ((set : Int) + (-2)))) 3 = some (oI ((set : Int) + (-2))) := s1_eq
    generalize px_s1 lv9 3 (oI ((set : Int) + (-2))) = lv4 at l0 l3 ⊢
    show t_X d 101 80 lv4 [] g9 P
    refine t_1 vfi_80 rfl (pb_goto (pc := 80) (by decide)) ?_
    show t_X d 101 18 lv4 [] g9 P
    refine ih g9 c181_8 cf9 _ (by omega) hS9 (fun s2 x1 x2 x3 => ?_) l0 (by rw [show 2 * (r : Int) - 1 = (set : Int) + (-2) by omega]; exact l3)
    by_cases z : s2 = set
    · rw [z]
      exact ⟨fc181_8, fun l y1 y2 => hE9 l y1 y2⟩
    · rw [nc181_8 s2 z]
      exact ⟨(hD s2 x1 x2 (by omega)).1, fun l y1 y2 => hD9 s2 x1 x2 (by omega) l y1 y2⟩
set_option maxHeartbeats 1000000 in
theorem vfi_run {K : Nat} (hK : lK K) {m : Nat} (hm : m < 32) {ki ma ta wo : Int} {k1 c : Int} {o v le st co en : tC} {d : Nat} (hd : 8 ≤ d) {g0 : pH} (hG : g_I eG g0) (hs : sdC g0 m ki ma ta wo) (r0 : g0.2.2.1 164 0 = some K) (hL : rLc g0 K k1 c o v le st co en) {pic : tC} (h8 : cF g0 (4 + 2 * m) 8 = alB pic 8) {h tk : Nat → Int} (eh : h = (fun w : Nat => aV o v (qF m ki ma ta wo w) le st co en c 119 99)) (et : tk = (fun w : Nat => aV o v (qF m ki ma ta wo w) le st co en c 116 99)) {P : Option pv × pH → Prop} (hZ : ∀ g : pH, J_ wF9 g0 g → cF g 177 0 = oS (fun _ => true) h 8 → oS (fun _ => true) h 8 = 0 → P (none, g)) (hP : ∀ g : pH, J_ wF9 g0 g → cF g 177 0 = oS (fun _ => true) h 8 → oS (fun _ => true) h 8 ≠ 0 → fA g 182 8 = gV h tk (alN pic) 1 0 → (∀ i, i < 7 → fA g 183 i = (((gW h tk (alN pic) 1 0).getD i 0 : Nat) : Int)) → P (none, g)) {lv : List (Nat × pv)} (l0 : px_lg lv 0 = some (pvR 177)) (l1 : px_lg lv 1 = some (pvR (4 + 2 * m))) (l2 : px_lg lv 2 = some (pvR 164)) : t_X d 101 0 lv [] g0 P := by
  refine t_0 vfi_0 rfl (ld_a l0) ?_
  refine t_0 vfi_1 rfl (ld_a l1) ?_
  refine t_0 vfi_2 rfl (ld_a l2) ?_
  refine t_3 vfi_3 rfl (ar := ([pvR 177, pvR (4 + 2 * m), pvR 164], [])) (pcal_w (as := [pvR 164, pvR (4 + 2 * m)]) rfl rfl rfl yneo_177) ⟨by omega, Nat.le_of_ble_eq_true rfl, Nat.le_of_ble_eq_true rfl, rfl⟩ ?_
  refine vca_run hK hm (by omega) hs r0 hL h8 eh et (fun g1 u1 u2 u3 hS1 q1 q2 q3 => ?_) hG rfl rfl rfl
  have hh : ∀ k, 0 ≤ h k ∧ h k ≤ 99 := fun k => by rw [eh]; exact aV_b (by decide)
  have ht : ∀ k, 0 ≤ tk k ∧ tk k ≤ 99 := fun k => by rw [et]; exact aV_b (by decide)
  have sb := oS_b (b := fun _ => true) (by decide) hh 8
  show t_X d 101 6 lv [] g1 P
  refine t_0 vfi_6 rfl (ld_a l0) ?_
  refine t_0 vfi_7 rfl (pq_cv yneo_177 rfl (show cF g1 177 0 = oS (fun _ => true) h 8 from S_f hS1 0 (Nat.le_of_ble_eq_true rfl))) ?_
  show t_X d 101 10 lv [oI (oS (fun _ => true) h 8)] g1 P
  refine tz_ne vfi_10 (by decide) ⟨by omega, by omega⟩ (fun c1 => ?_) (fun c1 => ?_)
  · show t_X d 101 14 lv [] g1 P
    refine t_0 vfi_14 rfl (pq_s (by decide)) ?_
    refine t_2 vfi_17 rfl (w := (px_s1 lv 3 (oI 255), [])) rfl ?_
    replace l0 : px_lg (px_s1 lv 3 (oI 255)) 0 = some (pvR 177) := s1_ne (by decide) (fun _ => rfl) l0
    replace l1 : px_lg (px_s1 lv 3 (oI 255)) 1 = some (pvR (4 + 2 * m)) := s1_ne (by decide) (fun _ => rfl) l1
    replace l2 : px_lg (px_s1 lv 3 (oI 255)) 2 = some (pvR 164) := s1_ne (by decide) (fun _ => rfl) l2
    have l3 : px_lg (px_s1 lv 3 (oI 255)) 3 = some (oI 255) := s1_eq
    generalize px_s1 lv 3 (oI 255) = lv2 at l0 l1 l2 l3 ⊢
    show t_X d 101 18 lv2 [] g1 P
    have a1 : ∀ j, j < 8 → fA g1 178 j = h j := fun j hj => (congrFun (show fA g1 178 = u1 from S_a hS1 0 (Nat.le_of_ble_eq_true rfl)) j).trans (q1 j hj)
    have a2 : ∀ j, j < 8 → fA g1 179 j = tk j := fun j hj => (congrFun (show fA g1 179 = u2 from S_a hS1 1 (Nat.le_of_ble_eq_true rfl)) j).trans (q2 j hj)
    have a3 : ∀ j, j < 8 → fA g1 180 j = ((rB (fun u => alN pic (cpW u j)) 8 : Nat) : Int) := fun j hj => (congrFun (show fA g1 180 = u3 from S_a hS1 2 (Nat.le_of_ble_eq_true rfl)) j).trans (q3 j hj)
    refine vfi_out (rt := alN pic) (by omega) hh ht a1 a2 a3 (fun g2 co cf lv2 hS2 hD2 l0 => ?_) 128 g1 (fA g1 181) (fA g1 182) _ (by omega) (S_0 (S_J hS1).1) (fun s2 x1 x2 x3 => by omega) l0 l3
    have M2 := (S_J hS2).2
    show t_X d 101 83 lv2 [] g2 P
    refine t_0 vfi_83 rfl (ld_a l0) ?_
    refine t_3 vfi_84 rfl (ar := ([pvR 177], [])) (pcal_w (as := []) rfl rfl rfl yneo_177) ⟨by omega, Nat.le_of_ble_eq_true rfl, Nat.le_of_ble_eq_true rfl, rfl⟩ ?_
    refine vly_run (rt := alN pic) (by omega) hh ht (fun j hj => (congrFun (fA_M M2 wD_n.1.2.1) j).trans (a2 j hj)) (fun s2 x1 x2 => (congrFun (show fA g2 181 = co from S_a hS2 0 (Nat.le_of_ble_eq_true rfl)) s2).trans (hD2 s2 x1 x2).1) (fun s2 l x1 x2 x3 x4 => (congrFun (show fA g2 182 = cf from S_a hS2 1 (Nat.le_of_ble_eq_true rfl)) _).trans ((hD2 s2 x1 x2).2 l x3 x4)) (fun g3 cr hS3 hc3 => ?_) (S_J hS2).1 rfl
    have M3 := (S_J hS3).2
    have hQ := hP g3 (J_up wD_n.2.1.2.2 (J_up wD_n.2.1.2.1 (J_up wD_n.2.1.1 (J_rf hG) (S_J hS1)) (S_J hS2)) (S_J hS3)) (((cF_M M3 wD_n.2.2.2.2.2.2).trans (cF_M M2 wD_n.1.2.2.2)).trans (S_f hS1 0 (Nat.le_of_ble_eq_true rfl))) (by omega) ((congrFun (fA_M M3 wD_n.2.2.2.2.2.1) 8).trans ((congrFun (show fA g2 182 = cf from S_a hS2 1 (Nat.le_of_ble_eq_true rfl)) 8).trans ((hD2 1 (by decide) rfl).2 0 (by decide) rfl))) (fun i hi => (congrFun (show fA g3 183 = cr from S_a hS3 0 (Nat.le_of_ble_eq_true rfl)) i).trans (hc3 i hi))
    show t_X d 101 87 lv2 [] g3 P
    refine t_5 vfi_87 rfl rfl ?_
    exact hQ
  · show t_X d 101 13 lv [] g1 P
    refine t_5 vfi_13 rfl rfl ?_
    exact hZ g1 (J_up wD_n.2.1.1 (J_rf hG) (S_J hS1)) (S_f hS1 0 (Nat.le_of_ble_eq_true rfl)) (by omega)
