/-! the tie: gone, keep, undo of the class (printed by wip/e2/t5.py) -/
theorem qgn_0 : xe_look (xc 120) 0 = some (.aload_n 0, 1, 0, 0, 0) := by decide +kernel
theorem qgn_1 : xe_look (xc 120) 1 = some (.getfield 16, 3, 11, 2, 983) := by decide +kernel
theorem qgn_4 : xe_look (xc 120) 4 = some (.iload_n 1, 1, 0, 0, 0) := by decide +kernel
theorem qgn_5 : xe_look (xc 120) 5 = some (.invokevirtual 107, 3, 0, 84, 984) := by decide +kernel
theorem qgn_8 : xe_look (xc 120) 8 = some (.astore_n 2, 1, 0, 0, 0) := by decide +kernel
theorem qgn_9 : xe_look (xc 120) 9 = some (.aload_n 2, 1, 0, 0, 0) := by decide +kernel
theorem qgn_10 : xe_look (xc 120) 10 = some (.ifnonnull 5, 3, 0, 0, 0) := by decide +kernel
theorem qgn_13 : xe_look (xc 120) 13 = some (.iconst 0, 1, 0, 0, 0) := by decide +kernel
theorem qgn_14 : xe_look (xc 120) 14 = some (.ireturn, 1, 0, 0, 0) := by decide +kernel
theorem qkp_0 : xe_look (xc 126) 0 = some (.aload_n 0, 1, 0, 0, 0) := by decide +kernel
theorem qkp_1 : xe_look (xc 126) 1 = some (.getfield 20, 3, 11, 3, 1029) := by decide +kernel
theorem qkp_4 : xe_look (xc 126) 4 = some (.aload_n 0, 1, 0, 0, 0) := by decide +kernel
theorem qkp_5 : xe_look (xc 126) 5 = some (.getfield 16, 3, 11, 2, 983) := by decide +kernel
theorem qkp_8 : xe_look (xc 126) 8 = some (.invokevirtual 398, 3, 0, 79, 1050) := by decide +kernel
theorem qkp_11 : xe_look (xc 126) 11 = some (.aload_n 0, 1, 0, 0, 0) := by decide +kernel
theorem qkp_12 : xe_look (xc 126) 12 = some (.iconst 1, 1, 0, 0, 0) := by decide +kernel
theorem qkp_13 : xe_look (xc 126) 13 = some (.putfield 401, 3, 11, 4, 1051) := by decide +kernel
theorem qkp_16 : xe_look (xc 126) 16 = some (.aload_n 0, 1, 0, 0, 0) := by decide +kernel
theorem qkp_17 : xe_look (xc 126) 17 = some (.getfield 16, 3, 11, 2, 983) := by decide +kernel
theorem qkp_20 : xe_look (xc 126) 20 = some (.invokevirtual 404, 3, 0, 83, 998) := by decide +kernel
theorem qkp_23 : xe_look (xc 126) 23 = some (.ireturn, 1, 0, 0, 0) := by decide +kernel
theorem qsk_0 : xe_look (xc 79) 0 = some (.iconst 0, 1, 0, 0, 0) := by decide +kernel
theorem qsk_1 : xe_look (xc 79) 1 = some (.istore_n 2, 1, 0, 0, 0) := by decide +kernel
theorem qsk_2 : xe_look (xc 79) 2 = some (.iload_n 2, 1, 0, 0, 0) := by decide +kernel
theorem qsk_3 : xe_look (xc 79) 3 = some (.bipush 32, 2, 0, 0, 0) := by decide +kernel
theorem qsk_5 : xe_look (xc 79) 5 = some (.if_icmp .ge 24, 3, 0, 0, 0) := by decide +kernel
theorem qsk_8 : xe_look (xc 79) 8 = some (.aload_n 0, 1, 0, 0, 0) := by decide +kernel
theorem qsk_9 : xe_look (xc 79) 9 = some (.getfield 11, 3, 8, 0, 924) := by decide +kernel
theorem qsk_12 : xe_look (xc 79) 12 = some (.iload_n 2, 1, 0, 0, 0) := by decide +kernel
theorem qsk_13 : xe_look (xc 79) 13 = some (.aaload, 1, 0, 0, 0) := by decide +kernel
theorem qsk_14 : xe_look (xc 79) 14 = some (.aload_n 1, 1, 0, 0, 0) := by decide +kernel
theorem qsk_15 : xe_look (xc 79) 15 = some (.getfield 11, 3, 8, 0, 924) := by decide +kernel
theorem qsk_18 : xe_look (xc 79) 18 = some (.iload_n 2, 1, 0, 0, 0) := by decide +kernel
theorem qsk_19 : xe_look (xc 79) 19 = some (.aaload, 1, 0, 0, 0) := by decide +kernel
theorem qsk_20 : xe_look (xc 79) 20 = some (.invokevirtual 65, 3, 0, 73, 925) := by decide +kernel
theorem qsk_23 : xe_look (xc 79) 23 = some (.iinc 2 1, 3, 0, 0, 0) := by decide +kernel
theorem qsk_26 : xe_look (xc 79) 26 = some (.goto (-24), 3, 0, 0, 0) := by decide +kernel
theorem qsu_0 : xe_look (xc 79) 0 = some (.iconst 0, 1, 0, 0, 0) := by decide +kernel
theorem qsu_1 : xe_look (xc 79) 1 = some (.istore_n 2, 1, 0, 0, 0) := by decide +kernel
theorem qsu_2 : xe_look (xc 79) 2 = some (.iload_n 2, 1, 0, 0, 0) := by decide +kernel
theorem qsu_3 : xe_look (xc 79) 3 = some (.bipush 32, 2, 0, 0, 0) := by decide +kernel
theorem qsu_5 : xe_look (xc 79) 5 = some (.if_icmp .ge 24, 3, 0, 0, 0) := by decide +kernel
theorem qsu_8 : xe_look (xc 79) 8 = some (.aload_n 0, 1, 0, 0, 0) := by decide +kernel
theorem qsu_9 : xe_look (xc 79) 9 = some (.getfield 11, 3, 8, 0, 924) := by decide +kernel
theorem qsu_12 : xe_look (xc 79) 12 = some (.iload_n 2, 1, 0, 0, 0) := by decide +kernel
theorem qsu_13 : xe_look (xc 79) 13 = some (.aaload, 1, 0, 0, 0) := by decide +kernel
theorem qsu_14 : xe_look (xc 79) 14 = some (.aload_n 1, 1, 0, 0, 0) := by decide +kernel
theorem qsu_15 : xe_look (xc 79) 15 = some (.getfield 11, 3, 8, 0, 924) := by decide +kernel
theorem qsu_18 : xe_look (xc 79) 18 = some (.iload_n 2, 1, 0, 0, 0) := by decide +kernel
theorem qsu_19 : xe_look (xc 79) 19 = some (.aaload, 1, 0, 0, 0) := by decide +kernel
theorem qsu_20 : xe_look (xc 79) 20 = some (.invokevirtual 65, 3, 0, 73, 925) := by decide +kernel
theorem qsu_23 : xe_look (xc 79) 23 = some (.iinc 2 1, 3, 0, 0, 0) := by decide +kernel
theorem qsu_26 : xe_look (xc 79) 26 = some (.goto (-24), 3, 0, 0, 0) := by decide +kernel
theorem qun_0 : xe_look (xc 160) 0 = some (.aload_n 0, 1, 0, 0, 0) := by decide +kernel
theorem qun_1 : xe_look (xc 160) 1 = some (.getfield 401, 3, 11, 4, 1051) := by decide +kernel
theorem qun_4 : xe_look (xc 160) 4 = some (.ifCond .eq 14, 3, 0, 0, 0) := by decide +kernel
theorem qun_7 : xe_look (xc 160) 7 = some (.aload_n 0, 1, 0, 0, 0) := by decide +kernel
theorem qun_8 : xe_look (xc 160) 8 = some (.getfield 16, 3, 11, 2, 983) := by decide +kernel
theorem qun_11 : xe_look (xc 160) 11 = some (.aload_n 0, 1, 0, 0, 0) := by decide +kernel
theorem qun_12 : xe_look (xc 160) 12 = some (.getfield 20, 3, 11, 3, 1029) := by decide +kernel
theorem qun_15 : xe_look (xc 160) 15 = some (.invokevirtual 398, 3, 0, 79, 1050) := by decide +kernel
theorem qun_18 : xe_look (xc 160) 18 = some (.aload_n 0, 1, 0, 0, 0) := by decide +kernel
theorem qun_19 : xe_look (xc 160) 19 = some (.getfield 401, 3, 11, 4, 1051) := by decide +kernel
theorem qun_22 : xe_look (xc 160) 22 = some (.ireturn, 1, 0, 0, 0) := by decide +kernel
theorem er_76 : eL[76]? = some (0, 8) := by decide +kernel
theorem cg_0_3 : (eG (cn 0 + 3)).2.2 = [77] := by decide +kernel
theorem cr_0_3 {d i : Nat} {lv : List (Nat × pv)} {r : List pv} {g : pH} (hG : g_I eG g) : px_push eL d none (.getfield i) 11 3 lv (pvR 0 :: r) g = some (pvR 76 :: r) := pget er_0 (gI_o (r := 76) hG er_0 (Nat.le_of_ble_eq_true rfl) (y := 3) rfl cg_0_3)
theorem cg_76_0 : (eG (cn 76 + 0)).2.2 = [78] := by decide +kernel
theorem cr_76_0 {d i : Nat} {lv : List (Nat × pv)} {r : List pv} {g : pH} (hG : g_I eG g) : px_push eL d none (.getfield i) 8 0 lv (pvR 76 :: r) g = some (pvR 77 :: r) := pget er_76 (gI_r (r := 77) hG er_76 (Nat.le_of_ble_eq_true rfl) (y := 0) rfl cg_76_0)
theorem gx_0_4 : eG (cn 0 + 4) = (0, 1, []) := by decide +kernel
theorem cb_0_4 {g : pH} (hG : g_I eG g) : 0 ≤ cF g 0 4 ∧ cF g 0 4 ≤ 1 := cb_z hG er_0 (Nat.le_of_ble_eq_true rfl) rfl gx_0_4
def kG (m : Nat) : eK := (120, (2, [(0, 2, (0, 100000, [1])), (1, 0, (0, 31, [])), (2, 2, (0, 100000, [5 + 2 * m]))], [], []), (0, []), 2 ^ (cn (4 + 2 * m) + 2) + 2 ^ (cn (4 + 2 * m) + 9) + 284433232230222646813639320722911712155419367858672443134251743011898804037995489101146734527450484782072845805027328, [(some (0, (1, 1, [])), [(4 + 2 * m, 2, 0, (0, 0, []))], [])])
theorem eGn : (List.range 32).all (fun m => ex_mid eG eKT eDX 4000 (kG m) [] 15) = true := by decide +kernel
theorem eGn_at {m : Nat} (h : m < 32) : ex_mid eG eKT eDX 4000 (kG m) [] 15 = true := List.all_eq_true.mp eGn m (List.mem_range.mpr h)
theorem WG_k : ∀ m, m < 32 → (kG m).2.2.2.1 &&& kk_8.2.2.2.1 = (kG m).2.2.2.1 := by decide +kernel
theorem WG_n : ∀ m, m < 32 → ∀ j, j < 32 → j ≠ m → (kG m).2.2.2.1.testBit (cn (4 + 2 * j) + 2) = false := by decide +kernel
set_option maxHeartbeats 2000000 in
theorem cgo_run {d : Nat} (hd : 4 ≤ d) (hd2 : d ≤ 1000000) {g : pH} (hG : g_I eG g) (hx : xL g) (hS : rS g) {i : Int} (hi : -2147483648 ≤ i ∧ i ≤ 2147483647) {P : Option pv × pH → Prop} (hA : ∀ m : Nat, m < 32 → i = m → cF g (4 + 2 * m) 2 = 1 → ∀ g1 : pH, g_I eG g1 → xL g1 → f_M kk_8.2.2.2.1 g g1 → cF g1 (4 + 2 * m) 2 = 0 → (∀ j, j < 32 → j ≠ m → cF g1 (4 + 2 * j) 2 = cF g (4 + 2 * j) 2) → P (some (oI 1), g1)) (hR : ¬ toC g i → P (some (oI 0), g)) {lv : List (Nat × pv)} (l0 : px_lg lv 0 = some (pvR 0)) (l1 : px_lg lv 1 = some (oI i)) : t_X d 120 0 lv [] g P := by
  have hJ : J_ 0 g g := J_rf hG
  refine t_0 qgn_0 rfl (ld_a l0) ?_
  refine t_0 qgn_1 rfl (cr_0_2 hJ.1) ?_
  refine t_0 qgn_4 rfl (ld_i l1) ?_
  refine t_3 qgn_5 rfl (ar := ([pvR 2, oI (i)], [])) (pcal_v1 rfl rfl er_2) ⟨by omega, Nat.le_of_ble_eq_true rfl, Nat.le_of_ble_eq_true rfl, rfl⟩ ?_
  refine td_run (by omega) hJ.1 hS (by omega) (fun m hm e1 c0 => ?_) (fun c0 => ?_) rfl rfl
  · show t_X d 120 8 lv [pvR (4 + 2 * m)] g P
    refine t_2 qgn_8 rfl (w := (px_s1 lv 2 (pvR (4 + 2 * m)), [])) rfl ?_
    replace l0 : px_lg (px_s1 lv 2 (pvR (4 + 2 * m))) 0 = some (pvR 0) := s1_ne (by decide) (fun _ => rfl) l0
    replace l1 : px_lg (px_s1 lv 2 (pvR (4 + 2 * m))) 1 = some (oI (i)) := s1_ne (by decide) (fun _ => rfl) l1
    have l2 : px_lg (px_s1 lv 2 (pvR (4 + 2 * m))) 2 = some (pvR (4 + 2 * m)) := s1_eq
    generalize px_s1 lv 2 (pvR (4 + 2 * m)) = lv1 at l0 l1 l2 ⊢
    show t_X d 120 9 lv1 [] g P
    refine t_0 qgn_9 rfl (ld_a l2) ?_
    refine t_1 qgn_10 rfl (pn_ot (pc := 10) (by decide)) ?_
    show t_X d 120 15 lv1 [] g P
    refine mid_L (k := kG m) (eGn_at hm) hG hx (xs := [cv (pvR 0), cv (oI i), cv (pvR (4 + 2 * m))]) (ys := []) ⟨by show 2 ≤ _; omega, ⟨⟨pvR 0, l0, rfl, rfl, ok_0⟩, ⟨oI i, l1, rfl, rfl, ok_oI (by omega) (by decide) (by decide)⟩, ⟨pvR (4 + 2 * m), l2, rfl, rfl, ok_s4 hm⟩, trivial⟩, trivial, fun c hc => absurd hc List.not_mem_nil⟩ (by omega) (fun o G1 X1 M1 P1 => ?_)
    obtain ⟨o1, o2⟩ := o
    obtain ⟨rfl, ys, hF⟩ := po_c P1
    exact hA m hm e1 c0 _ G1 X1 (f_M_w (WG_k m hm) M1) (fa_z (el_s4 hm) (Nat.le_of_ble_eq_true rfl) rfl hF) (fun j hj hn => cF_M M1 (WG_n m hm j hj hn))
  · show t_X d 120 8 lv [.inr (.inr none)] g P
    refine t_2 qgn_8 rfl (w := (px_s1 lv 2 (.inr (.inr none)), [])) rfl ?_
    replace l0 : px_lg (px_s1 lv 2 (.inr (.inr none))) 0 = some (pvR 0) := s1_ne (by decide) (fun _ => rfl) l0
    replace l1 : px_lg (px_s1 lv 2 (.inr (.inr none))) 1 = some (oI (i)) := s1_ne (by decide) (fun _ => rfl) l1
    have l2 : px_lg (px_s1 lv 2 (.inr (.inr none))) 2 = some (.inr (.inr none)) := s1_eq
    generalize px_s1 lv 2 (.inr (.inr none)) = lv2 at l0 l1 l2 ⊢
    show t_X d 120 9 lv2 [] g P
    refine t_0 qgn_9 rfl (ld_a l2) ?_
    refine t_1 qgn_10 rfl (pn_of (pc := 10) ) ?_
    show t_X d 120 13 lv2 [] g P
    refine t_0 qgn_13 rfl rfl ?_
    refine t_5 qgn_14 rfl rfl ?_
    exact hR c0
/-- copying slide m from row S to row D, told as b says -/
def W73 (D m : Nat) : Nat := 2 ^ (cn (D + 2 * m) + 2) + 2 ^ (cn (D + 2 * m) + 3) + 2 ^ (cn (D + 2 * m) + 4) + 2 ^ (cn (D + 2 * m) + 5) + 2 ^ (cn (D + 2 * m) + 6) + 2 ^ (cn (D + 2 * m) + 7) + 2 ^ (cn (D + 2 * m) + 8) + 2 ^ (cn (D + 2 * m) + 9) + 2 ^ cn (D + 1 + 2 * m)
def k73 (S D m : Nat) (b : Int) : eK := (73, (1, [(0, 2, (0, 100000, [D + 1 + 2 * m])), (1, 2, (0, 100000, [S + 1 + 2 * m]))], [(S + 2 * m, 2, 0, (b, b, []))], []), (0, []), W73 D m, [(none, [(D + 2 * m, 2, 0, (b, b, []))], [])])
theorem e73 : (List.range 32).all (fun m => ex_mid eG eKT eDX 4000 (k73 4 78 m 0) [] 0 && ex_mid eG eKT eDX 4000 (k73 4 78 m 1) [] 0 && ex_mid eG eKT eDX 4000 (k73 78 4 m 0) [] 0 && ex_mid eG eKT eDX 4000 (k73 78 4 m 1) [] 0) = true := by decide +kernel
theorem e73_at {m : Nat} (h : m < 32) {b : Int} (hb : b = 0 ∨ b = 1) : ex_mid eG eKT eDX 4000 (k73 4 78 m b) [] 0 = true ∧ ex_mid eG eKT eDX 4000 (k73 78 4 m b) [] 0 = true := by
  have h1 := List.all_eq_true.mp e73 m (List.mem_range.mpr h)
  rw [Bool.and_eq_true, Bool.and_eq_true, Bool.and_eq_true] at h1
  obtain ⟨⟨⟨h2, h3⟩, h4⟩, h5⟩ := h1
  rcases hb with rfl | rfl
  · exact ⟨h2, h4⟩
  · exact ⟨h3, h5⟩
theorem W73_k : ∀ m, m < 32 → W73 78 m &&& kk_57.2.2.2.1 = W73 78 m ∧ W73 4 m &&& kk_59.2.2.2.1 = W73 4 m := by decide +kernel
theorem W73_n : ∀ m, m < 32 → ∀ j, j < 32 → (W73 78 m).testBit (cn (4 + 2 * j) + 2) = false ∧ (W73 4 m).testBit (cn (78 + 2 * j) + 2) = false ∧ (j ≠ m → (W73 78 m).testBit (cn (78 + 2 * j) + 2) = false ∧ (W73 4 m).testBit (cn (4 + 2 * j) + 2) = false) := by decide +kernel
theorem Wku_b : kk_57.2.2.2.1.testBit (cn 0 + 4) = true ∧ kk_57.2.2.2.1 &&& eDX = 0 ∧ kk_57.2.2.2.1.testBit (cn 3) = false ∧ kk_57.2.2.2.1.testBit (cn 77) = false ∧ kk_59.2.2.2.1 &&& eDX = 0 ∧ kk_59.2.2.2.1.testBit (cn 3) = false ∧ kk_59.2.2.2.1.testBit (cn 77) = false := by decide +kernel
theorem ok_rl {k r : Nat} (h : k + 1 = r) (h2 : r ≤ 100000) : ok_v (cv (pvR k)) (0, 100000, [r]) := ⟨by show (0 : Int) ≤ (k : Int) + 1; omega, by show (k : Int) + 1 ≤ 100000; omega, Or.inr (List.mem_singleton.mpr (by show ((k : Int) + 1).toNat = _; omega))⟩
def ksk_t : eK := (79, (2, [(0, 2, (0, 100000, [77])), (1, 2, (0, 100000, [3]))], [], []), (0, []), 5478202469312658202298657606359559552399189555750060277728162399985812908015454331312396513281732175695577420133786623465117652050924133354484159628489221355176370334396422980290300982358420722977257286416758278682968665496748032, [(none, [], [])])
theorem esk_t : ex_mid eG eKT eDX 4000 ksk_t [] 29 = true := by decide +kernel
theorem Wsk_t : ksk_t.2.2.2.1 &&& kk_57.2.2.2.1 = ksk_t.2.2.2.1 ∧ ∀ j, j < 32 → ksk_t.2.2.2.1.testBit (cn (4 + 2 * j) + 2) = false ∧ ksk_t.2.2.2.1.testBit (cn (78 + 2 * j) + 2) = false := by decide +kernel
set_option maxHeartbeats 4000000 in
theorem sk_loop {d : Nat} (hd : 5 ≤ d) (hd2 : d ≤ 1000000) {h0 : pH} (hx : xL h0) (hS0 : rS h0) {P : Option pv × pH → Prop} (hP : ∀ g1 : pH, J_ kk_57.2.2.2.1 h0 g1 → xL g1 → (∀ j, j < 32 → cF g1 (78 + 2 * j) 2 = cF h0 (4 + 2 * j) 2) → (∀ j, j < 32 → cF g1 (4 + 2 * j) 2 = cF h0 (4 + 2 * j) 2) → P (none, g1)) : ∀ (n m : Nat) (lv : List (Nat × pv)) (g : pH), 32 - m ≤ n → m ≤ 32 → J_ kk_57.2.2.2.1 h0 g → (∀ j, j < m → cF g (78 + 2 * j) 2 = cF h0 (4 + 2 * j) 2) → (∀ j, j < 32 → cF g (4 + 2 * j) 2 = cF h0 (4 + 2 * j) 2) → px_lg lv 0 = some (pvR 76) → px_lg lv 1 = some (pvR 2) → px_lg lv 2 = some (oI (m : Int)) → t_X d 79 2 lv [] g P := by
  intro n
  induction n with
  | zero =>
    intro m lv g hn hm2 hJ hc hs l0 l1 l2
    refine t_0 qsk_2 rfl (ld_i l2) ?_
    refine t_0 qsk_3 rfl (pq_b (by decide)) ?_
    refine tb_ge qsk_5 (by decide) ⟨by omega, by omega⟩ ⟨by omega, by omega⟩ (fun c1 => ?_) (fun c1 => absurd c1 (by omega))
    show t_X d 79 29 lv [] g P
    refine mid_L (k := ksk_t) esk_t hJ.1 (xL_K _ _ _ hJ.2 Wku_b.2.1 hx) (xs := [cv (pvR 76), cv (pvR 2)]) (ys := []) ⟨by show 2 ≤ _; omega, ⟨⟨pvR 76, l0, rfl, rfl, ok_rl rfl (by decide)⟩, ⟨pvR 2, l1, rfl, rfl, ok_rl rfl (by decide)⟩, trivial⟩, trivial, fun c hc => absurd hc List.not_mem_nil⟩ (by omega) (fun o G1 X1 M1 P1 => ?_)
    obtain ⟨o1, o2⟩ := o
    obtain ⟨rfl, ys, hF⟩ := po_n P1
    exact hP o2 (J_up Wsk_t.1 hJ ⟨G1, M1⟩) X1 (fun j hj => by rw [cF_M M1 (Wsk_t.2 j hj).2]; exact hc j (by omega)) (fun j hj => by rw [cF_M M1 (Wsk_t.2 j hj).1]; exact hs j hj)
  | succ n ih =>
    intro m lv g hn hm2 hJ hc hs l0 l1 l2
    by_cases hm : m < 32
    · have hSg := rS_M hJ.2 ⟨Wku_b.2.2.1, Wku_b.2.2.2.1⟩ hS0
      have hb9 := cs4_2 hm hJ.1
      refine t_0 qsk_2 rfl (ld_i l2) ?_
      refine t_0 qsk_3 rfl (pq_b (by decide)) ?_
      refine tb_ge qsk_5 (by decide) ⟨by omega, by omega⟩ ⟨by omega, by omega⟩ (fun c1 => absurd c1 (by omega)) (fun c1 => ?_)
      show t_X d 79 8 lv [] g P
      refine t_0 qsk_8 rfl (ld_a l0) ?_
      refine t_0 qsk_9 rfl (cr_76_0 hJ.1) ?_
      refine t_0 qsk_12 rfl (ld_i l2) ?_
      refine t_0 qsk_13 rfl (pq_a77 hSg hm (by omega)) ?_
      refine t_0 qsk_14 rfl (ld_a l1) ?_
      refine t_0 qsk_15 rfl (cr_2_0 hJ.1) ?_
      refine t_0 qsk_18 rfl (ld_i l2) ?_
      refine t_0 qsk_19 rfl (pq_a3 hSg hm (by omega)) ?_
      refine t_3 qsk_20 rfl (ar := ([pvR (78 + 2 * m), pvR (4 + 2 * m)], [])) (pcal_v1 rfl rfl (el_s78 hm)) ⟨by omega, Nat.le_of_ble_eq_true rfl, Nat.le_of_ble_eq_true rfl, rfl⟩ ?_
      refine mid_L (k := k73 4 78 m (cF g (4 + 2 * m) 2)) (e73_at hm (by omega)).1 hJ.1 (xL_K _ _ _ hJ.2 Wku_b.2.1 hx) (xs := [cv (pvR (78 + 2 * m)), cv (pvR (4 + 2 * m))]) (ys := [cF g (4 + 2 * m) 2]) ⟨by show 1 ≤ _; omega, ⟨⟨pvR (78 + 2 * m), rfl, rfl, rfl, ok_rl (by omega) (by omega)⟩, ⟨pvR (4 + 2 * m), rfl, rfl, rfl, ok_rl (by omega) (by omega)⟩, trivial⟩, ⟨⟨.inl (g.1 (4 + 2 * m) 2), hc_z (el_s4 hm) (Nat.le_of_ble_eq_true rfl) rfl, rfl, rfl, ⟨Int.le_refl _, Int.le_refl _, Or.inl rfl⟩⟩, trivial⟩, fun c hc => absurd hc List.not_mem_nil⟩ (by omega) (fun o G1 X1 M1 P1 => ?_)
      obtain ⟨o1, o2⟩ := o
      obtain ⟨rfl, ys, hF⟩ := po_n P1
      have hJ9 : J_ kk_57.2.2.2.1 h0 o2 := J_up (W73_k m hm).1 hJ ⟨G1, M1⟩
      have hF9 : cF o2 (78 + 2 * m) 2 = cF g (4 + 2 * m) 2 := fa_z (el_s78 hm) (Nat.le_of_ble_eq_true rfl) rfl hF
      show t_X d 79 23 lv [] o2 P
      refine t_2 qsk_23 rfl (w := (px_s1 lv 2 (oI ((m : Int) + 1)), [])) (pq_inc l2 (by decide)) ?_
      replace l0 : px_lg (px_s1 lv 2 (oI ((m : Int) + 1))) 0 = some (pvR 76) := s1_ne (by decide) (fun _ => rfl) l0
      replace l1 : px_lg (px_s1 lv 2 (oI ((m : Int) + 1))) 1 = some (pvR 2) := s1_ne (by decide) (fun _ => rfl) l1
      have l2 : px_lg (px_s1 lv 2 (oI ((m : Int) + 1))) 2 = some (oI ((m : Int) + 1)) := s1_eq
      generalize px_s1 lv 2 (oI ((m : Int) + 1)) = lv2 at l0 l1 l2 ⊢
      show t_X d 79 26 lv2 [] o2 P
      refine t_1 qsk_26 rfl (pb_goto (pc := 26) (by decide)) ?_
      show t_X d 79 2 lv2 [] o2 P
      refine ih (m + 1) _ o2 (by omega) (by omega) hJ9 (fun j hj => ?_) (fun j hj => ?_) l0 l1 l2
      · rcases Nat.lt_or_ge j m with z | z
        · rw [cF_M M1 (((W73_n m hm j (by omega)).2.2 (by omega)).1)]; exact hc j z
        · rw [show j = m by omega, hF9]; exact hs m hm
      · rw [cF_M M1 (W73_n m hm j hj).1]; exact hs j hj
    · skip
      refine t_0 qsk_2 rfl (ld_i l2) ?_
      refine t_0 qsk_3 rfl (pq_b (by decide)) ?_
      refine tb_ge qsk_5 (by decide) ⟨by omega, by omega⟩ ⟨by omega, by omega⟩ (fun c1 => ?_) (fun c1 => absurd c1 (by omega))
      show t_X d 79 29 lv [] g P
      refine mid_L (k := ksk_t) esk_t hJ.1 (xL_K _ _ _ hJ.2 Wku_b.2.1 hx) (xs := [cv (pvR 76), cv (pvR 2)]) (ys := []) ⟨by show 2 ≤ _; omega, ⟨⟨pvR 76, l0, rfl, rfl, ok_rl rfl (by decide)⟩, ⟨pvR 2, l1, rfl, rfl, ok_rl rfl (by decide)⟩, trivial⟩, trivial, fun c hc => absurd hc List.not_mem_nil⟩ (by omega) (fun o G1 X1 M1 P1 => ?_)
      obtain ⟨o1, o2⟩ := o
      obtain ⟨rfl, ys, hF⟩ := po_n P1
      exact hP o2 (J_up Wsk_t.1 hJ ⟨G1, M1⟩) X1 (fun j hj => by rw [cF_M M1 (Wsk_t.2 j hj).2]; exact hc j (by omega)) (fun j hj => by rw [cF_M M1 (Wsk_t.2 j hj).1]; exact hs j hj)
theorem sk_run {d : Nat} (hd : 5 ≤ d) (hd2 : d ≤ 1000000) {h0 : pH} (hG : g_I eG h0) (hx : xL h0) (hS0 : rS h0) {P : Option pv × pH → Prop} (hP : ∀ g1 : pH, J_ kk_57.2.2.2.1 h0 g1 → xL g1 → (∀ j, j < 32 → cF g1 (78 + 2 * j) 2 = cF h0 (4 + 2 * j) 2) → (∀ j, j < 32 → cF g1 (4 + 2 * j) 2 = cF h0 (4 + 2 * j) 2) → P (none, g1)) {lv : List (Nat × pv)} (l0 : px_lg lv 0 = some (pvR 76)) (l1 : px_lg lv 1 = some (pvR 2)) : t_X d 79 0 lv [] h0 P := by
  have hJ : J_ kk_57.2.2.2.1 h0 h0 := J_rf hG
  refine t_0 qsk_0 rfl rfl ?_
  refine t_2 qsk_1 rfl (w := (px_s1 lv 2 (oI (0)), [])) rfl ?_
  replace l0 : px_lg (px_s1 lv 2 (oI (0))) 0 = some (pvR 76) := s1_ne (by decide) (fun _ => rfl) l0
  replace l1 : px_lg (px_s1 lv 2 (oI (0))) 1 = some (pvR 2) := s1_ne (by decide) (fun _ => rfl) l1
  have l2 : px_lg (px_s1 lv 2 (oI (0))) 2 = some (oI (0)) := s1_eq
  generalize px_s1 lv 2 (oI (0)) = lv1 at l0 l1 l2 ⊢
  show t_X d 79 2 lv1 [] h0 P
  exact sk_loop hd hd2 hx hS0 hP 32 0 _ _ (by omega) (by omega) hJ (fun j hj => absurd hj (by omega)) (fun j hj => rfl) l0 l1 l2
def ksu_t : eK := (79, (2, [(0, 2, (0, 100000, [3])), (1, 2, (0, 100000, [77]))], [], []), (0, []), 284740797238364042028469383416658730376195348473378871195124442568738972434021512969929537974788828141693478721847296, [(none, [], [])])
theorem esu_t : ex_mid eG eKT eDX 4000 ksu_t [] 29 = true := by decide +kernel
theorem Wsu_t : ksu_t.2.2.2.1 &&& kk_59.2.2.2.1 = ksu_t.2.2.2.1 ∧ ∀ j, j < 32 → ksu_t.2.2.2.1.testBit (cn (4 + 2 * j) + 2) = false ∧ ksu_t.2.2.2.1.testBit (cn (78 + 2 * j) + 2) = false := by decide +kernel
set_option maxHeartbeats 4000000 in
theorem su_loop {d : Nat} (hd : 5 ≤ d) (hd2 : d ≤ 1000000) {h0 : pH} (hx : xL h0) (hS0 : rS h0) {P : Option pv × pH → Prop} (hP : ∀ g1 : pH, J_ kk_59.2.2.2.1 h0 g1 → xL g1 → (∀ j, j < 32 → cF g1 (4 + 2 * j) 2 = cF h0 (78 + 2 * j) 2) → (∀ j, j < 32 → cF g1 (78 + 2 * j) 2 = cF h0 (78 + 2 * j) 2) → P (none, g1)) : ∀ (n m : Nat) (lv : List (Nat × pv)) (g : pH), 32 - m ≤ n → m ≤ 32 → J_ kk_59.2.2.2.1 h0 g → (∀ j, j < m → cF g (4 + 2 * j) 2 = cF h0 (78 + 2 * j) 2) → (∀ j, j < 32 → cF g (78 + 2 * j) 2 = cF h0 (78 + 2 * j) 2) → px_lg lv 0 = some (pvR 2) → px_lg lv 1 = some (pvR 76) → px_lg lv 2 = some (oI (m : Int)) → t_X d 79 2 lv [] g P := by
  intro n
  induction n with
  | zero =>
    intro m lv g hn hm2 hJ hc hs l0 l1 l2
    refine t_0 qsu_2 rfl (ld_i l2) ?_
    refine t_0 qsu_3 rfl (pq_b (by decide)) ?_
    refine tb_ge qsu_5 (by decide) ⟨by omega, by omega⟩ ⟨by omega, by omega⟩ (fun c1 => ?_) (fun c1 => absurd c1 (by omega))
    show t_X d 79 29 lv [] g P
    refine mid_L (k := ksu_t) esu_t hJ.1 (xL_K _ _ _ hJ.2 Wku_b.2.2.2.2.1 hx) (xs := [cv (pvR 2), cv (pvR 76)]) (ys := []) ⟨by show 2 ≤ _; omega, ⟨⟨pvR 2, l0, rfl, rfl, ok_rl rfl (by decide)⟩, ⟨pvR 76, l1, rfl, rfl, ok_rl rfl (by decide)⟩, trivial⟩, trivial, fun c hc => absurd hc List.not_mem_nil⟩ (by omega) (fun o G1 X1 M1 P1 => ?_)
    obtain ⟨o1, o2⟩ := o
    obtain ⟨rfl, ys, hF⟩ := po_n P1
    exact hP o2 (J_up Wsu_t.1 hJ ⟨G1, M1⟩) X1 (fun j hj => by rw [cF_M M1 (Wsu_t.2 j hj).1]; exact hc j (by omega)) (fun j hj => by rw [cF_M M1 (Wsu_t.2 j hj).2]; exact hs j hj)
  | succ n ih =>
    intro m lv g hn hm2 hJ hc hs l0 l1 l2
    by_cases hm : m < 32
    · have hSg := rS_M hJ.2 ⟨Wku_b.2.2.2.2.2.1, Wku_b.2.2.2.2.2.2⟩ hS0
      have hb9 := cs78_2 hm hJ.1
      refine t_0 qsu_2 rfl (ld_i l2) ?_
      refine t_0 qsu_3 rfl (pq_b (by decide)) ?_
      refine tb_ge qsu_5 (by decide) ⟨by omega, by omega⟩ ⟨by omega, by omega⟩ (fun c1 => absurd c1 (by omega)) (fun c1 => ?_)
      show t_X d 79 8 lv [] g P
      refine t_0 qsu_8 rfl (ld_a l0) ?_
      refine t_0 qsu_9 rfl (cr_2_0 hJ.1) ?_
      refine t_0 qsu_12 rfl (ld_i l2) ?_
      refine t_0 qsu_13 rfl (pq_a3 hSg hm (by omega)) ?_
      refine t_0 qsu_14 rfl (ld_a l1) ?_
      refine t_0 qsu_15 rfl (cr_76_0 hJ.1) ?_
      refine t_0 qsu_18 rfl (ld_i l2) ?_
      refine t_0 qsu_19 rfl (pq_a77 hSg hm (by omega)) ?_
      refine t_3 qsu_20 rfl (ar := ([pvR (4 + 2 * m), pvR (78 + 2 * m)], [])) (pcal_v1 rfl rfl (el_s4 hm)) ⟨by omega, Nat.le_of_ble_eq_true rfl, Nat.le_of_ble_eq_true rfl, rfl⟩ ?_
      refine mid_L (k := k73 78 4 m (cF g (78 + 2 * m) 2)) (e73_at hm (by omega)).2 hJ.1 (xL_K _ _ _ hJ.2 Wku_b.2.2.2.2.1 hx) (xs := [cv (pvR (4 + 2 * m)), cv (pvR (78 + 2 * m))]) (ys := [cF g (78 + 2 * m) 2]) ⟨by show 1 ≤ _; omega, ⟨⟨pvR (4 + 2 * m), rfl, rfl, rfl, ok_rl (by omega) (by omega)⟩, ⟨pvR (78 + 2 * m), rfl, rfl, rfl, ok_rl (by omega) (by omega)⟩, trivial⟩, ⟨⟨.inl (g.1 (78 + 2 * m) 2), hc_z (el_s78 hm) (Nat.le_of_ble_eq_true rfl) rfl, rfl, rfl, ⟨Int.le_refl _, Int.le_refl _, Or.inl rfl⟩⟩, trivial⟩, fun c hc => absurd hc List.not_mem_nil⟩ (by omega) (fun o G1 X1 M1 P1 => ?_)
      obtain ⟨o1, o2⟩ := o
      obtain ⟨rfl, ys, hF⟩ := po_n P1
      have hJ9 : J_ kk_59.2.2.2.1 h0 o2 := J_up (W73_k m hm).2 hJ ⟨G1, M1⟩
      have hF9 : cF o2 (4 + 2 * m) 2 = cF g (78 + 2 * m) 2 := fa_z (el_s4 hm) (Nat.le_of_ble_eq_true rfl) rfl hF
      show t_X d 79 23 lv [] o2 P
      refine t_2 qsu_23 rfl (w := (px_s1 lv 2 (oI ((m : Int) + 1)), [])) (pq_inc l2 (by decide)) ?_
      replace l0 : px_lg (px_s1 lv 2 (oI ((m : Int) + 1))) 0 = some (pvR 2) := s1_ne (by decide) (fun _ => rfl) l0
      replace l1 : px_lg (px_s1 lv 2 (oI ((m : Int) + 1))) 1 = some (pvR 76) := s1_ne (by decide) (fun _ => rfl) l1
      have l2 : px_lg (px_s1 lv 2 (oI ((m : Int) + 1))) 2 = some (oI ((m : Int) + 1)) := s1_eq
      generalize px_s1 lv 2 (oI ((m : Int) + 1)) = lv2 at l0 l1 l2 ⊢
      show t_X d 79 26 lv2 [] o2 P
      refine t_1 qsu_26 rfl (pb_goto (pc := 26) (by decide)) ?_
      show t_X d 79 2 lv2 [] o2 P
      refine ih (m + 1) _ o2 (by omega) (by omega) hJ9 (fun j hj => ?_) (fun j hj => ?_) l0 l1 l2
      · rcases Nat.lt_or_ge j m with z | z
        · rw [cF_M M1 (((W73_n m hm j (by omega)).2.2 (by omega)).2)]; exact hc j z
        · rw [show j = m by omega, hF9]; exact hs m hm
      · rw [cF_M M1 (W73_n m hm j hj).2.1]; exact hs j hj
    · skip
      refine t_0 qsu_2 rfl (ld_i l2) ?_
      refine t_0 qsu_3 rfl (pq_b (by decide)) ?_
      refine tb_ge qsu_5 (by decide) ⟨by omega, by omega⟩ ⟨by omega, by omega⟩ (fun c1 => ?_) (fun c1 => absurd c1 (by omega))
      show t_X d 79 29 lv [] g P
      refine mid_L (k := ksu_t) esu_t hJ.1 (xL_K _ _ _ hJ.2 Wku_b.2.2.2.2.1 hx) (xs := [cv (pvR 2), cv (pvR 76)]) (ys := []) ⟨by show 2 ≤ _; omega, ⟨⟨pvR 2, l0, rfl, rfl, ok_rl rfl (by decide)⟩, ⟨pvR 76, l1, rfl, rfl, ok_rl rfl (by decide)⟩, trivial⟩, trivial, fun c hc => absurd hc List.not_mem_nil⟩ (by omega) (fun o G1 X1 M1 P1 => ?_)
      obtain ⟨o1, o2⟩ := o
      obtain ⟨rfl, ys, hF⟩ := po_n P1
      exact hP o2 (J_up Wsu_t.1 hJ ⟨G1, M1⟩) X1 (fun j hj => by rw [cF_M M1 (Wsu_t.2 j hj).1]; exact hc j (by omega)) (fun j hj => by rw [cF_M M1 (Wsu_t.2 j hj).2]; exact hs j hj)
theorem su_run {d : Nat} (hd : 5 ≤ d) (hd2 : d ≤ 1000000) {h0 : pH} (hG : g_I eG h0) (hx : xL h0) (hS0 : rS h0) {P : Option pv × pH → Prop} (hP : ∀ g1 : pH, J_ kk_59.2.2.2.1 h0 g1 → xL g1 → (∀ j, j < 32 → cF g1 (4 + 2 * j) 2 = cF h0 (78 + 2 * j) 2) → (∀ j, j < 32 → cF g1 (78 + 2 * j) 2 = cF h0 (78 + 2 * j) 2) → P (none, g1)) {lv : List (Nat × pv)} (l0 : px_lg lv 0 = some (pvR 2)) (l1 : px_lg lv 1 = some (pvR 76)) : t_X d 79 0 lv [] h0 P := by
  have hJ : J_ kk_59.2.2.2.1 h0 h0 := J_rf hG
  refine t_0 qsu_0 rfl rfl ?_
  refine t_2 qsu_1 rfl (w := (px_s1 lv 2 (oI (0)), [])) rfl ?_
  replace l0 : px_lg (px_s1 lv 2 (oI (0))) 0 = some (pvR 2) := s1_ne (by decide) (fun _ => rfl) l0
  replace l1 : px_lg (px_s1 lv 2 (oI (0))) 1 = some (pvR 76) := s1_ne (by decide) (fun _ => rfl) l1
  have l2 : px_lg (px_s1 lv 2 (oI (0))) 2 = some (oI (0)) := s1_eq
  generalize px_s1 lv 2 (oI (0)) = lv1 at l0 l1 l2 ⊢
  show t_X d 79 2 lv1 [] h0 P
  exact su_loop hd hd2 hx hS0 hP 32 0 _ _ (by omega) (by omega) hJ (fun j hj => absurd hj (by omega)) (fun j hj => rfl) l0 l1 l2
theorem ctl_e {f g : Nat → Int} : ∀ {n : Nat}, (∀ j, j < n → f j = g j) → ctl f n = ctl g n
  | 0, _ => rfl
  | n + 1, h => by
    show ctl f n + f n = ctl g n + g n
    rw [ctl_e (n := n) (fun j hj => h j (by omega)), h n (by omega)]
def cF_t (g : pH) (j : Nat) : Int := cF g (4 + 2 * j) 2
set_option maxHeartbeats 2000000 in
theorem ck_run {d : Nat} (hd : 8 ≤ d) (hd2 : d ≤ 1000000) {g : pH} (hG : g_I eG g) (hx : xL g) (hS : rS g) {P : Option pv × pH → Prop} (hP : ∀ g1 : pH, g_I eG g1 → xL g1 → f_M kk_57.2.2.2.1 g g1 → cF g1 0 4 = 1 → (∀ j, j < 32 → cF g1 (78 + 2 * j) 2 = cF g (4 + 2 * j) 2) → (∀ j, j < 32 → cF g1 (4 + 2 * j) 2 = cF g (4 + 2 * j) 2) → P (some (oI (ctl (cF_t g) 32)), g1)) {lv : List (Nat × pv)} (l0 : px_lg lv 0 = some (pvR 0)) : t_X d 126 0 lv [] g P := by
  have hJ : J_ kk_57.2.2.2.1 g g := J_rf hG
  have w_0_4 := Wku_b.1
  refine t_0 qkp_0 rfl (ld_a l0) ?_
  refine t_0 qkp_1 rfl (cr_0_3 hJ.1) ?_
  refine t_0 qkp_4 rfl (ld_a l0) ?_
  refine t_0 qkp_5 rfl (cr_0_2 hJ.1) ?_
  refine t_3 qkp_8 rfl (ar := ([pvR 76, pvR 2], [])) (pcal_v1 rfl rfl er_76) ⟨by omega, Nat.le_of_ble_eq_true rfl, Nat.le_of_ble_eq_true rfl, rfl⟩ ?_
  refine sk_run (by omega) (by omega) hG hx hS (fun gq hJq Xq c1 c2 => ?_) rfl rfl
  show t_X d 126 11 lv [] gq P
  refine t_0 qkp_11 rfl (ld_a l0) ?_
  refine t_0 qkp_12 rfl rfl ?_
  refine tw_z qkp_13 er_0 rfl hJq w_0_4 gx_0_4 (by decide) ⟨by omega, by omega⟩ (by omega) (fun g1 hJ1 e1 => ?_)
  have v1 : cF g1 0 4 = 1 := by rw [e1]; exact pc_at (by omega) (by omega)
  show t_X d 126 16 lv [] g1 P
  refine t_0 qkp_16 rfl (ld_a l0) ?_
  refine t_0 qkp_17 rfl (cr_0_2 hJ1.1) ?_
  refine t_3 qkp_20 rfl (ar := ([pvR 2], [])) (pcal_v0 rfl rfl er_2) ⟨by omega, Nat.le_of_ble_eq_true rfl, Nat.le_of_ble_eq_true rfl, rfl⟩ ?_
  refine tc_run hJ1.1 (rS_M hJ1.2 ⟨Wku_b.2.2.1, Wku_b.2.2.2.1⟩ hS) ?_ rfl
  show t_X d 126 23 lv [oI (ctl (fun j => cF g1 (4 + 2 * j) 2) 32)] g1 P
  refine t_5 qkp_23 rfl rfl ?_
  have e9 : ∀ j, cF g1 (4 + 2 * j) 2 = cF gq (4 + 2 * j) 2 := fun j => by rw [e1]; exact pc_ne (by omega)
  have e8 : ∀ j, cF g1 (78 + 2 * j) 2 = cF gq (78 + 2 * j) 2 := fun j => by rw [e1]; exact pc_ne (by omega)
  rw [ctl_e (g := cF_t g) (fun j hj => (e9 j).trans (c2 j hj))]
  exact hP g1 hJ1.1 (xL_K _ _ _ hJ1.2 Wku_b.2.1 hx) hJ1.2 (by omega) (fun j hj => (e8 j).trans (c1 j hj)) (fun j hj => (e9 j).trans (c2 j hj))
theorem pr_z {t : Option FieldType} {e : Int} (ht : t = some .boolean) (h : e = 0 ∨ e = 1) : px_ret t .ireturn [oI e] = some (some (oI e)) := by
  rw [ht]
  rcases h with rfl | rfl <;> rfl
theorem Wun_4 : kk_59.2.2.2.1.testBit (cn 0 + 4) = false := by decide +kernel
set_option maxHeartbeats 2000000 in
theorem cu_run {d : Nat} (hd : 8 ≤ d) (hd2 : d ≤ 1000000) {g : pH} (hG : g_I eG g) (hx : xL g) (hS : rS g) {P : Option pv × pH → Prop} (hA : cF g 0 4 ≠ 0 → ∀ g1 : pH, g_I eG g1 → xL g1 → f_M kk_59.2.2.2.1 g g1 → (∀ j, j < 32 → cF g1 (4 + 2 * j) 2 = cF g (78 + 2 * j) 2) → (∀ j, j < 32 → cF g1 (78 + 2 * j) 2 = cF g (78 + 2 * j) 2) → P (some (oI (cF g 0 4)), g1)) (hR : cF g 0 4 = 0 → P (some (oI (cF g 0 4)), g)) {lv : List (Nat × pv)} (l0 : px_lg lv 0 = some (pvR 0)) : t_X d 160 0 lv [] g P := by
  have hJ : J_ kk_59.2.2.2.1 g g := J_rf hG
  refine t_0 qun_0 rfl (ld_a l0) ?_
  have r1 := cb_0_4 hJ.1
  refine t_0 qun_1 rfl (pq_cz (y := 4) er_0 rfl) ?_
  refine tz_eq qun_4 (by decide) ⟨by omega, by omega⟩ (fun c2 => ?_) (fun c2 => ?_)
  · show t_X d 160 18 lv [] g P
    refine t_0 qun_18 rfl (ld_a l0) ?_
    have r3 := cb_0_4 hJ.1
    refine t_0 qun_19 rfl (pq_cz (y := 4) er_0 rfl) ?_
    refine t_5 qun_22 rfl (pr_z rfl (by omega)) ?_
    exact hR (by omega)
  · show t_X d 160 7 lv [] g P
    refine t_0 qun_7 rfl (ld_a l0) ?_
    refine t_0 qun_8 rfl (cr_0_2 hJ.1) ?_
    refine t_0 qun_11 rfl (ld_a l0) ?_
    refine t_0 qun_12 rfl (cr_0_3 hJ.1) ?_
    refine t_3 qun_15 rfl (ar := ([pvR 2, pvR 76], [])) (pcal_v1 rfl rfl er_2) ⟨by omega, Nat.le_of_ble_eq_true rfl, Nat.le_of_ble_eq_true rfl, rfl⟩ ?_
    refine su_run (by omega) (by omega) hG hx hS (fun gq hJq Xq c1 c2 => ?_) rfl rfl
    show t_X d 160 18 lv [] gq P
    refine t_0 qun_18 rfl (ld_a l0) ?_
    have r4 := cb_0_4 hJq.1
    refine t_0 qun_19 rfl (pq_cz (y := 4) er_0 rfl) ?_
    refine t_5 qun_22 rfl (pr_z rfl (by omega)) ?_
    rw [cF_M hJq.2 Wun_4]
    exact hA (by omega) gq hJq.1 Xq hJq.2 c1 c2
