/-! the ways alike 0: slide; RA as pairs (printed by wip/e2/x20.py) -/


theorem t8_k : ∀ m, m < 32 → tW8 m &&& WT m = tW8 m := by decide +kernel
theorem alN_e {p p' : tC} {w : Nat} (h : ∀ j, j < 25 → p j = p' j) : alN p w = alN p' w := by
  have key : ∀ k, k < 25 → okA p w k = okA p' w k := fun k hk => by
    unfold okA
    have := qdI_b (w := w) (x := (k : Int) % 5) (y := (k : Int) / 5) ⟨by omega, by omega⟩ ⟨by omega, by omega⟩
    rw [h k hk, h _ (by omega)]
  cases e : alN p' w with
  | true => exact alN_1 (fun k hk => (key k hk).trans (List.all_eq_true.mp e k (List.mem_range.mpr hk)))
  | false =>
    cases e2 : alN p w with
    | false => rfl
    | true =>
      have e3 : alN p' w = true := alN_1 (fun k hk => (key k hk).symm.trans (List.all_eq_true.mp e2 k (List.mem_range.mpr hk)))
      rw [e] at e3
      cases e3
theorem alB_e {p p' : tC} (h : ∀ j, j < 25 → p j = p' j) : ∀ k, alB p k = alB p' k := by
  intro k
  induction k with
  | zero => rfl
  | succ k ih =>
    unfold alB
    rw [ih, alN_e h]
set_option maxHeartbeats 2000000 in
theorem utm_run {m : Nat} (hm : m < 32) {d : Nat} (hd : 4 ≤ d) {g0 : pH} (hG : g_I eG g0) {a b c : Int} (ha : 0 ≤ a ∧ a ≤ 3) (hb : 0 ≤ b ∧ b ≤ 3) (hc : 0 ≤ c ∧ c ≤ 99) {P : Option pv × pH → Prop} (hP : ∀ g1 : pH, J_ (WT m) g0 g1 → cF g1 (4 + 2 * m) 8 = alB (fA g1 (5 + 2 * m)) 8 → P (none, g1)) {lv : List (Nat × pv)} (l0 : px_lg lv 0 = some (pvR (4 + 2 * m))) (l1 : px_lg lv 1 = some (pvR 1)) (l2 : px_lg lv 2 = some (oI a)) (l3 : px_lg lv 3 = some (oI b)) (l4 : px_lg lv 4 = some (oI c)) : t_X d 78 0 lv [] g0 P := by
  have hS : tE m g0 g0 (cF g0 (4 + 2 * m) 2) (cF g0 (4 + 2 * m) 3) (cF g0 (4 + 2 * m) 4) (cF g0 (4 + 2 * m) 5) (cF g0 (4 + 2 * m) 6) (cF g0 (4 + 2 * m) 7) (cF g0 (4 + 2 * m) 8) (fA g0 (5 + 2 * m)) := S_0 hG
  generalize cF g0 (4 + 2 * m) 2 = v0, cF g0 (4 + 2 * m) 3 = v1, cF g0 (4 + 2 * m) 4 = v2, cF g0 (4 + 2 * m) 5 = v3, cF g0 (4 + 2 * m) 6 = v4, cF g0 (4 + 2 * m) 7 = v5, cF g0 (4 + 2 * m) 8 = v6 at hS
  obtain ⟨p0, hp0⟩ : ∃ p0 : tC, p0 = fA g0 (5 + 2 * m) := ⟨_, rfl⟩
  rw [← hp0] at hS
  refine t_0 utl_0 rfl (ld_a l1) ?_
  refine t_0 utl_1 rfl rfl ?_
  refine t_0 utl_2 rfl (ld_a l0) ?_
  refine t_0 utl_3 rfl (tl_r1 hm (S_J hS).1) ?_
  show t_X d 78 6 lv [pvR (5 + 2 * m), oI 0, pvR 1] g0 P
  refine t_0 utl_6 rfl rfl ?_
  refine t_0 utl_7 rfl (pq_b (by decide)) ?_
  refine ts_cp (n := 0) rfl rfl (tl_b m) utl_9 (by omega) (Nat.le_of_ble_eq_true rfl) hS (tl_a m hm).1 tl_x rfl ⟨by omega, by omega, by omega⟩ (tl_a m hm).2.1 (tl_a m hm).2.2.1 (fun g1 hS1 => ?_)
  replace hS1 : tE m g0 g1 v0 v1 v2 v3 v4 v5 v6 (fun k : Nat => if (k : Int) < 25 then fA g0 1 k else fA g0 (5 + 2 * m) k) := hS1
  show t_X d 78 12 lv [] g1 P
  refine t_0 utl_12 rfl (ld_a l0) ?_
  refine t_0 utl_13 rfl rfl ?_
  refine ts_z (n := 0) rfl rfl (tl_f0 m) utl_14 rfl (el_s4 hm) hS1 (tl_w2 m hm) (tl_g2 m hm) (by decide) ⟨by omega, by omega⟩ (by omega) (fun g2 hS2 => ?_)
  replace hS2 : tE m g0 g2 1 v1 v2 v3 v4 v5 v6 (fun k : Nat => if (k : Int) < 25 then fA g0 1 k else fA g0 (5 + 2 * m) k) := hS2
  show t_X d 78 17 lv [] g2 P
  refine t_0 utl_17 rfl (ld_a l0) ?_
  refine t_0 utl_18 rfl (ld_i l2) ?_
  refine ts_f (n := 1) rfl rfl (tl_f1 m) utl_19 rfl (el_s4 hm) hS2 (tl_w3 m hm) (tl_g3 m hm) (by decide) ⟨by omega, by omega⟩ (fun g3 hS3 => ?_)
  replace hS3 : tE m g0 g3 1 a v2 v3 v4 v5 v6 (fun k : Nat => if (k : Int) < 25 then fA g0 1 k else fA g0 (5 + 2 * m) k) := hS3
  show t_X d 78 22 lv [] g3 P
  refine t_0 utl_22 rfl (ld_a l0) ?_
  refine t_0 utl_23 rfl (ld_i l3) ?_
  refine ts_f (n := 2) rfl rfl (tl_f2 m) utl_24 rfl (el_s4 hm) hS3 (tl_w4 m hm) (tl_g4 m hm) (by decide) ⟨by omega, by omega⟩ (fun g4 hS4 => ?_)
  replace hS4 : tE m g0 g4 1 a b v3 v4 v5 v6 (fun k : Nat => if (k : Int) < 25 then fA g0 1 k else fA g0 (5 + 2 * m) k) := hS4
  show t_X d 78 27 lv [] g4 P
  refine t_0 utl_27 rfl (ld_a l0) ?_
  refine t_0 utl_28 rfl (ld_i l4) ?_
  refine ts_f (n := 3) rfl rfl (tl_f3 m) utl_30 rfl (el_s4 hm) hS4 (tl_w5 m hm) (tl_g5 m hm) (by decide) ⟨by omega, by omega⟩ (fun g5 hS5 => ?_)
  replace hS5 : tE m g0 g5 1 a b c v4 v5 v6 (fun k : Nat => if (k : Int) < 25 then fA g0 1 k else fA g0 (5 + 2 * m) k) := hS5
  show t_X d 78 33 lv [] g5 P
  refine t_0 utl_33 rfl (ld_a l0) ?_
  refine t_0 utl_34 rfl rfl ?_
  refine ts_f (n := 4) rfl rfl (tl_f4 m) utl_35 rfl (el_s4 hm) hS5 (tl_w6 m hm) (tl_g6 m hm) (by decide) ⟨by omega, by omega⟩ (fun g6 hS6 => ?_)
  replace hS6 : tE m g0 g6 1 a b c 0 v5 v6 (fun k : Nat => if (k : Int) < 25 then fA g0 1 k else fA g0 (5 + 2 * m) k) := hS6
  show t_X d 78 38 lv [] g6 P
  refine t_0 utl_38 rfl (ld_a l0) ?_
  refine t_0 utl_39 rfl rfl ?_
  refine ts_f (n := 5) rfl rfl (tl_f5 m) utl_40 rfl (el_s4 hm) hS6 (tl_w7 m hm) (tl_g7 m hm) (by decide) ⟨by omega, by omega⟩ (fun g7 hS7 => ?_)
  replace hS7 : tE m g0 g7 1 a b c 0 0 v6 (fun k : Nat => if (k : Int) < 25 then fA g0 1 k else fA g0 (5 + 2 * m) k) := hS7
  show t_X d 78 43 lv [] g7 P
  refine t_0 utl_43 rfl (ld_a l0) ?_
  refine t_0 utl_44 rfl rfl ?_
  refine ts_f (n := 6) rfl rfl (tl_f6 m) utl_45 rfl (el_s4 hm) hS7 (tl_w8 m hm) (tl_g8 m hm) (by decide) ⟨by omega, by omega⟩ (fun g8 hS8 => ?_)
  replace hS8 : tE m g0 g8 1 a b c 0 0 0 (fun k : Nat => if (k : Int) < 25 then fA g0 1 k else fA g0 (5 + 2 * m) k) := hS8
  show t_X d 78 48 lv [] g8 P
  have J9 := S_J hS8
  refine uty_run hm (by omega) rfl (fun g9 J8 e8 => ?_) J9.1 (S_f hS8 6 (Nat.le_of_ble_eq_true rfl)) l0
  exact hP g9 (J_up (t8_k m hm) J9 J8) (by rw [e8, fA_M J8.2 (t8_w m hm).2])
set_option maxHeartbeats 4000000 in
theorem vsm_run {d : Nat} (hd : 7 ≤ d) (hd2 : d ≤ 1000000) {g : pH} (hG : g_I eG g) (hx : xL g) (hS : rS g) {i a b c : Int} (hi : -2147483648 ≤ i ∧ i ≤ 2147483647) (ha : -2147483648 ≤ a ∧ a ≤ 2147483647) (hb9 : -2147483648 ≤ b ∧ b ≤ 2147483647) (hc : -2147483648 ≤ c ∧ c ≤ 2147483647) {P : Option pv × pH → Prop} (hA : ∀ m : Nat, m < 32 → ∀ g1 : pH, f_M (WT m) (pu g.1 0 1 (Int32.ofInt 0), g.2) g1 → cF g1 (4 + 2 * m) 8 = alB (fA g1 (5 + 2 * m)) 8 → P (some (oI 1), g1)) (hB : ∀ g1 : pH, (∀ k y, ¬ (k = 0 ∧ y = 1) → cF g1 k y = cF g k y) → (∀ K, fA g1 K = fA g K) → P (some (oI 0), g1)) {lv : List (Nat × pv)} (l0 : px_lg lv 0 = some (pvR 0)) (l1 : px_lg lv 1 = some (oI i)) (l2 : px_lg lv 2 = some (oI a)) (l3 : px_lg lv 3 = some (oI b)) (l4 : px_lg lv 4 = some (oI c)) : t_X d 147 0 lv [] g P := by
  have hJ : J_ kk_2.2.2.2.1 g g := J_rf hG
  have w_0_1 := Wsl_b.1
  have hb := cb_0_1 hG
  by_cases a0 : i < 0
  · refine mid_L (k := kcsl_1) ecsl_1 hG hx (xs := [cv (pvR 0), cv (oI i), cv (oI a), cv (oI b), cv (oI c)]) (ys := []) ⟨by show 1 ≤ _; omega, ⟨⟨pvR 0, l0, rfl, rfl, ok_0⟩, ⟨oI i, l1, rfl, rfl, ok_oI (by omega) (by decide) (by decide)⟩, ⟨oI a, l2, rfl, rfl, ok_full32 _⟩, ⟨oI b, l3, rfl, rfl, ok_full32 _⟩, ⟨oI c, l4, rfl, rfl, ok_full32 _⟩, trivial⟩, trivial, fun c hc => absurd hc List.not_mem_nil⟩ (by omega) (fun o G1 X1 M1 P1 => ?_)
    obtain ⟨o1, o2⟩ := o
    obtain ⟨rfl, -⟩ := po_c P1
    exact hB _ (fun k y _ => cF_M0 M1 k y) (fun K => fA_M M1 (Nat.zero_testBit _))
  · skip
    by_cases a1 : 31 < i
    · refine mid_L (k := kcsl_2) ecsl_2 hG hx (xs := [cv (pvR 0), cv (oI i), cv (oI a), cv (oI b), cv (oI c)]) (ys := []) ⟨by show 1 ≤ _; omega, ⟨⟨pvR 0, l0, rfl, rfl, ok_0⟩, ⟨oI i, l1, rfl, rfl, ok_oI (by omega) (by decide) (by decide)⟩, ⟨oI a, l2, rfl, rfl, ok_full32 _⟩, ⟨oI b, l3, rfl, rfl, ok_full32 _⟩, ⟨oI c, l4, rfl, rfl, ok_full32 _⟩, trivial⟩, trivial, fun c hc => absurd hc List.not_mem_nil⟩ (by omega) (fun o G1 X1 M1 P1 => ?_)
      obtain ⟨o1, o2⟩ := o
      obtain ⟨rfl, -⟩ := po_c P1
      exact hB _ (fun k y _ => cF_M0 M1 k y) (fun K => fA_M M1 (Nat.zero_testBit _))
    · skip
      by_cases a2 : a < 0
      · refine mid_L (k := kcsl_3) ecsl_3 hG hx (xs := [cv (pvR 0), cv (oI i), cv (oI a), cv (oI b), cv (oI c)]) (ys := []) ⟨by show 1 ≤ _; omega, ⟨⟨pvR 0, l0, rfl, rfl, ok_0⟩, ⟨oI i, l1, rfl, rfl, ok_full32 _⟩, ⟨oI a, l2, rfl, rfl, ok_oI (by omega) (by decide) (by decide)⟩, ⟨oI b, l3, rfl, rfl, ok_full32 _⟩, ⟨oI c, l4, rfl, rfl, ok_full32 _⟩, trivial⟩, trivial, fun c hc => absurd hc List.not_mem_nil⟩ (by omega) (fun o G1 X1 M1 P1 => ?_)
        obtain ⟨o1, o2⟩ := o
        obtain ⟨rfl, -⟩ := po_c P1
        exact hB _ (fun k y _ => cF_M0 M1 k y) (fun K => fA_M M1 (Nat.zero_testBit _))
      · skip
        by_cases a3 : 3 < a
        · refine mid_L (k := kcsl_4) ecsl_4 hG hx (xs := [cv (pvR 0), cv (oI i), cv (oI a), cv (oI b), cv (oI c)]) (ys := []) ⟨by show 1 ≤ _; omega, ⟨⟨pvR 0, l0, rfl, rfl, ok_0⟩, ⟨oI i, l1, rfl, rfl, ok_full32 _⟩, ⟨oI a, l2, rfl, rfl, ok_oI (by omega) (by decide) (by decide)⟩, ⟨oI b, l3, rfl, rfl, ok_full32 _⟩, ⟨oI c, l4, rfl, rfl, ok_full32 _⟩, trivial⟩, trivial, fun c hc => absurd hc List.not_mem_nil⟩ (by omega) (fun o G1 X1 M1 P1 => ?_)
          obtain ⟨o1, o2⟩ := o
          obtain ⟨rfl, -⟩ := po_c P1
          exact hB _ (fun k y _ => cF_M0 M1 k y) (fun K => fA_M M1 (Nat.zero_testBit _))
        · skip
          by_cases a4 : b < 0
          · refine mid_L (k := kcsl_5) ecsl_5 hG hx (xs := [cv (pvR 0), cv (oI i), cv (oI a), cv (oI b), cv (oI c)]) (ys := []) ⟨by show 1 ≤ _; omega, ⟨⟨pvR 0, l0, rfl, rfl, ok_0⟩, ⟨oI i, l1, rfl, rfl, ok_full32 _⟩, ⟨oI a, l2, rfl, rfl, ok_full32 _⟩, ⟨oI b, l3, rfl, rfl, ok_oI (by omega) (by decide) (by decide)⟩, ⟨oI c, l4, rfl, rfl, ok_full32 _⟩, trivial⟩, trivial, fun c hc => absurd hc List.not_mem_nil⟩ (by omega) (fun o G1 X1 M1 P1 => ?_)
            obtain ⟨o1, o2⟩ := o
            obtain ⟨rfl, -⟩ := po_c P1
            exact hB _ (fun k y _ => cF_M0 M1 k y) (fun K => fA_M M1 (Nat.zero_testBit _))
          · skip
            by_cases a5 : 3 < b
            · refine mid_L (k := kcsl_6) ecsl_6 hG hx (xs := [cv (pvR 0), cv (oI i), cv (oI a), cv (oI b), cv (oI c)]) (ys := []) ⟨by show 1 ≤ _; omega, ⟨⟨pvR 0, l0, rfl, rfl, ok_0⟩, ⟨oI i, l1, rfl, rfl, ok_full32 _⟩, ⟨oI a, l2, rfl, rfl, ok_full32 _⟩, ⟨oI b, l3, rfl, rfl, ok_oI (by omega) (by decide) (by decide)⟩, ⟨oI c, l4, rfl, rfl, ok_full32 _⟩, trivial⟩, trivial, fun c hc => absurd hc List.not_mem_nil⟩ (by omega) (fun o G1 X1 M1 P1 => ?_)
              obtain ⟨o1, o2⟩ := o
              obtain ⟨rfl, -⟩ := po_c P1
              exact hB _ (fun k y _ => cF_M0 M1 k y) (fun K => fA_M M1 (Nat.zero_testBit _))
            · skip
              by_cases a6 : c < 0
              · refine mid_L (k := kcsl_7) ecsl_7 hG hx (xs := [cv (pvR 0), cv (oI i), cv (oI a), cv (oI b), cv (oI c)]) (ys := []) ⟨by show 1 ≤ _; omega, ⟨⟨pvR 0, l0, rfl, rfl, ok_0⟩, ⟨oI i, l1, rfl, rfl, ok_full32 _⟩, ⟨oI a, l2, rfl, rfl, ok_full32 _⟩, ⟨oI b, l3, rfl, rfl, ok_full32 _⟩, ⟨oI c, l4, rfl, rfl, ok_oI (by omega) (by decide) (by decide)⟩, trivial⟩, trivial, fun c hc => absurd hc List.not_mem_nil⟩ (by omega) (fun o G1 X1 M1 P1 => ?_)
                obtain ⟨o1, o2⟩ := o
                obtain ⟨rfl, -⟩ := po_c P1
                exact hB _ (fun k y _ => cF_M0 M1 k y) (fun K => fA_M M1 (Nat.zero_testBit _))
              · skip
                by_cases a7 : 99 < c
                · refine mid_L (k := kcsl_8) ecsl_8 hG hx (xs := [cv (pvR 0), cv (oI i), cv (oI a), cv (oI b), cv (oI c)]) (ys := []) ⟨by show 1 ≤ _; omega, ⟨⟨pvR 0, l0, rfl, rfl, ok_0⟩, ⟨oI i, l1, rfl, rfl, ok_full32 _⟩, ⟨oI a, l2, rfl, rfl, ok_full32 _⟩, ⟨oI b, l3, rfl, rfl, ok_full32 _⟩, ⟨oI c, l4, rfl, rfl, ok_oI (by omega) (by decide) (by decide)⟩, trivial⟩, trivial, fun c hc => absurd hc List.not_mem_nil⟩ (by omega) (fun o G1 X1 M1 P1 => ?_)
                  obtain ⟨o1, o2⟩ := o
                  obtain ⟨rfl, -⟩ := po_c P1
                  exact hB _ (fun k y _ => cF_M0 M1 k y) (fun K => fA_M M1 (Nat.zero_testBit _))
                · skip
                  by_cases a8 : cF g 0 1 < 25
                  · refine mid_L (k := kcsl_9) ecsl_9 hG hx (xs := [cv (pvR 0), cv (oI i), cv (oI a), cv (oI b), cv (oI c)]) (ys := [cF g 0 1]) ⟨by show 1 ≤ _; omega, ⟨⟨pvR 0, l0, rfl, rfl, ok_0⟩, ⟨oI i, l1, rfl, rfl, ok_oI (by omega) (by decide) (by decide)⟩, ⟨oI a, l2, rfl, rfl, ok_oI (by omega) (by decide) (by decide)⟩, ⟨oI b, l3, rfl, rfl, ok_oI (by omega) (by decide) (by decide)⟩, ⟨oI c, l4, rfl, rfl, ok_oI (by omega) (by decide) (by decide)⟩, trivial⟩, ⟨⟨.inl (g.1 0 1), hc_i er_0 (Nat.le_of_ble_eq_true rfl) rfl, rfl, rfl, ⟨hb.1, show cF g 0 1 ≤ 24 by omega, Or.inl rfl⟩⟩, trivial⟩, fun c hc => absurd hc List.not_mem_nil⟩ (by omega) (fun o G1 X1 M1 P1 => ?_)
                    obtain ⟨o1, o2⟩ := o
                    obtain ⟨rfl, -⟩ := po_c P1
                    exact hB _ (fun k y _ => cF_M0 M1 k y) (fun K => fA_M M1 (Nat.zero_testBit _))
                  · skip
                    obtain ⟨m, rfl⟩ : ∃ m : Nat, i = m := ⟨i.toNat, by omega⟩
                    have hm : m < 32 := by omega
                    refine t_0 vsl_0 rfl (ld_i l1) ?_
                    refine t_0 vsl_1 rfl rfl ?_
                    refine t_0 vsl_2 rfl (pq_b (by decide)) ?_
                    refine t_3 vsl_4 rfl (ar := ([oI ((m : Int)), oI (0), oI (31)], [])) (pcal_s ⟨Or.inl rfl, rfl, Nat.le_of_ble_eq_true rfl⟩) ⟨by omega, Nat.le_of_ble_eq_true rfl, Nat.le_of_ble_eq_true rfl, rfl⟩ ?_
                    refine ii_run ⟨by omega, by omega⟩ ⟨by omega, by omega⟩ ⟨by omega, by omega⟩ rfl rfl rfl (fun t1 => ?_) (fun t1 => absurd t1 (by omega))
                    show t_X d 147 7 lv [oI (1)] g P
                    refine tz_eq vsl_7 (by decide) ⟨by omega, by omega⟩ (fun c2 => absurd c2 (by omega)) (fun c2 => ?_)
                    show t_X d 147 10 lv [] g P
                    refine t_0 vsl_10 rfl (ld_i l2) ?_
                    refine t_0 vsl_11 rfl rfl ?_
                    refine t_0 vsl_12 rfl rfl ?_
                    refine t_3 vsl_13 rfl (ar := ([oI (a), oI (0), oI (3)], [])) (pcal_s ⟨Or.inl rfl, rfl, Nat.le_of_ble_eq_true rfl⟩) ⟨by omega, Nat.le_of_ble_eq_true rfl, Nat.le_of_ble_eq_true rfl, rfl⟩ ?_
                    refine ii_run ⟨by omega, by omega⟩ ⟨by omega, by omega⟩ ⟨by omega, by omega⟩ rfl rfl rfl (fun t3 => ?_) (fun t3 => absurd t3 (by omega))
                    show t_X d 147 16 lv [oI (1)] g P
                    refine tz_eq vsl_16 (by decide) ⟨by omega, by omega⟩ (fun c4 => absurd c4 (by omega)) (fun c4 => ?_)
                    show t_X d 147 19 lv [] g P
                    refine t_0 vsl_19 rfl (ld_i l3) ?_
                    refine t_0 vsl_20 rfl rfl ?_
                    refine t_0 vsl_21 rfl rfl ?_
                    refine t_3 vsl_22 rfl (ar := ([oI (b), oI (0), oI (3)], [])) (pcal_s ⟨Or.inl rfl, rfl, Nat.le_of_ble_eq_true rfl⟩) ⟨by omega, Nat.le_of_ble_eq_true rfl, Nat.le_of_ble_eq_true rfl, rfl⟩ ?_
                    refine ii_run ⟨by omega, by omega⟩ ⟨by omega, by omega⟩ ⟨by omega, by omega⟩ rfl rfl rfl (fun t5 => ?_) (fun t5 => absurd t5 (by omega))
                    show t_X d 147 25 lv [oI (1)] g P
                    refine tz_eq vsl_25 (by decide) ⟨by omega, by omega⟩ (fun c6 => absurd c6 (by omega)) (fun c6 => ?_)
                    show t_X d 147 28 lv [] g P
                    refine t_0 vsl_28 rfl (ld_i l4) ?_
                    refine t_0 vsl_30 rfl rfl ?_
                    refine t_0 vsl_31 rfl (pq_b (by decide)) ?_
                    refine t_3 vsl_33 rfl (ar := ([oI (c), oI (0), oI (99)], [])) (pcal_s ⟨Or.inl rfl, rfl, Nat.le_of_ble_eq_true rfl⟩) ⟨by omega, Nat.le_of_ble_eq_true rfl, Nat.le_of_ble_eq_true rfl, rfl⟩ ?_
                    refine ii_run ⟨by omega, by omega⟩ ⟨by omega, by omega⟩ ⟨by omega, by omega⟩ rfl rfl rfl (fun t7 => ?_) (fun t7 => absurd t7 (by omega))
                    show t_X d 147 36 lv [oI (1)] g P
                    refine tz_ne vsl_36 (by decide) ⟨by omega, by omega⟩ (fun c8 => ?_) (fun c8 => absurd c8 (by omega))
                    show t_X d 147 41 lv [] g P
                    refine t_0 vsl_41 rfl (ld_a l0) ?_
                    have r9 := cb_0_1 hJ.1
                    refine t_0 vsl_42 rfl (pq_cf (y := 1) er_0 rfl) ?_
                    refine t_0 vsl_45 rfl (pq_b (by decide)) ?_
                    refine tb_ge vsl_47 (by decide) ⟨by omega, by omega⟩ ⟨by omega, by omega⟩ (fun c10 => ?_) (fun c10 => absurd c10 (by omega))
                    show t_X d 147 52 lv [] g P
                    refine t_0 vsl_52 rfl (ld_a l0) ?_
                    refine t_0 vsl_53 rfl rfl ?_
                    refine tw_c vsl_54 er_0 rfl hJ w_0_1 gx_0_1 (by decide) ⟨by omega, by omega⟩ (fun g11 hJ11 e11 => ?_)
                    have v11 : cF g11 0 1 = 0 := by rw [e11]; exact pc_at (by omega) (by omega)
                    show t_X d 147 57 lv [] g11 P
                    refine t_0 vsl_57 rfl (ld_a l0) ?_
                    refine t_3 vsl_58 rfl (ar := ([pvR 0], [])) (pcal_v0 rfl rfl er_0) ⟨by omega, Nat.le_of_ble_eq_true rfl, Nat.le_of_ble_eq_true rfl, rfl⟩ ?_
                    refine tp_run (by omega) hJ11.1 (fun t12 => ?_) (fun t12 => ?_) rfl
                    · show t_X d 147 61 lv [oI (1)] g11 P
                      refine tz_ne vsl_61 (by decide) ⟨by omega, by omega⟩ (fun c13 => ?_) (fun c13 => absurd c13 (by omega))
                      show t_X d 147 66 lv [] g11 P
                      refine t_0 vsl_66 rfl (ld_a l0) ?_
                      refine t_0 vsl_67 rfl (cr_0_2 hJ11.1) ?_
                      refine t_0 vsl_70 rfl (cr_2_0 hJ11.1) ?_
                      refine t_0 vsl_73 rfl (ld_i l1) ?_
                      refine t_0 vsl_74 rfl (pq_a3 (rS_2 e11 hS) hm (by omega)) ?_
                      refine t_0 vsl_75 rfl (ld_a l0) ?_
                      refine t_0 vsl_76 rfl (cr_0_0 hJ11.1) ?_
                      refine t_0 vsl_79 rfl (ld_i l2) ?_
                      refine t_0 vsl_80 rfl (ld_i l3) ?_
                      refine t_0 vsl_81 rfl (ld_i l4) ?_
                      refine t_3 vsl_83 rfl (ar := ([pvR (4 + 2 * m), pvR 1, oI (a), oI (b), oI (c)], [])) (pcal_v4 rfl rfl (el_s4 hm)) ⟨by omega, Nat.le_of_ble_eq_true rfl, Nat.le_of_ble_eq_true rfl, rfl⟩ ?_
                      refine utm_run hm (by omega) hJ11.1 (by omega) (by omega) (by omega) (fun o2 J9 u8 => ?_) rfl rfl rfl rfl rfl
                      show t_X d 147 86 lv [] o2 P
                      refine t_0 vsl_86 rfl rfl ?_
                      refine t_5 vsl_87 rfl rfl ?_
                      exact hA m hm o2 (by rw [← e11]; exact J9.2) u8
                    · show t_X d 147 61 lv [oI (0)] g11 P
                      refine tz_ne vsl_61 (by decide) ⟨by omega, by omega⟩ (fun c14 => absurd c14 (by omega)) (fun c14 => ?_)
                      show t_X d 147 64 lv [] g11 P
                      refine t_0 vsl_64 rfl rfl ?_
                      refine t_5 vsl_65 rfl rfl ?_
                      exact hB g11 (by rw [e11]; exact fun k y h => pc_ne h) (fun K => (congrArg (fun q : pH => fA q K) e11 : fA g11 K = fA (_, g.2) K).trans rfl)
def mA9 : Nat := 928718159947262673469439872805923514536125528784612800392474586263865065679148538460355476774459860152912199956579327428734390384315316401715602398001371707264895567950121347591608665300349710785905307175351136705967198044160
def bA9 (W b m : Nat) : Bool := [cn (b + 2 * m) + 2, cn (b + 2 * m) + 8, cn (b + 1 + 2 * m)].all (fun i => !W.testBit i)
theorem bA_x {W b m : Nat} (h : bA9 W b m = true) : W.testBit (cn (b + 2 * m) + 2) = false ∧ W.testBit (cn (b + 2 * m) + 8) = false ∧ W.testBit (cn (b + 1 + 2 * m)) = false := by
  have k : ∀ i, i ∈ [cn (b + 2 * m) + 2, cn (b + 2 * m) + 8, cn (b + 1 + 2 * m)] → W.testBit i = false := fun i hi => by
    have := List.all_eq_true.mp h i hi
    rw [Bool.not_eq_true'] at this
    exact this
  exact ⟨k _ (.head _), k _ (.tail _ (.head _)), k _ (.tail _ (.tail _ (.head _)))⟩
/-- what is alike 0 of a told slide -/
def rA1 (g : pH) (b m : Nat) : Prop := cF g (b + 2 * m) 2 = 1 → cF g (b + 2 * m) 8 = alB (fA g (b + 1 + 2 * m)) 8
def RA (g : pH) : Prop := (∀ m, m < 32 → rA1 g 4 m) ∧ ∀ m, m < 32 → rA1 g 78 m
theorem rA_e {g g1 : pH} {b m : Nat} (h2 : cF g1 (b + 2 * m) 2 = 1 → cF g (b + 2 * m) 2 = 1) (h8 : cF g1 (b + 2 * m) 8 = cF g (b + 2 * m) 8) (hp : fA g1 (b + 1 + 2 * m) = fA g (b + 1 + 2 * m)) (h : rA1 g b m) : rA1 g1 b m := fun z => by
  rw [h8, hp]
  exact h (h2 z)
theorem rA_f {W : Nat} {g g1 : pH} {b m : Nat} (hM : f_M W g g1) (hW : bA9 W b m = true) (h : rA1 g b m) : rA1 g1 b m := by
  obtain ⟨e2, e8, ep⟩ := bA_x hW
  exact rA_e (fun z => by rw [← cF_M hM e2]; exact z) (cF_M hM e8) (fA_M hM ep) h
theorem mA_b : ∀ m, m < 32 → ([cn (4 + 2 * m) + 2, cn (4 + 2 * m) + 8, cn (4 + 1 + 2 * m)].all (fun i => mA9.testBit i) = true ∧ [cn (78 + 2 * m) + 2, cn (78 + 2 * m) + 8, cn (78 + 1 + 2 * m)].all (fun i => mA9.testBit i) = true) := by decide +kernel
theorem RA_f {W : Nat} {g g1 : pH} (hM : f_M W g g1) (hW : W &&& mA9 = 0) (h : RA g) : RA g1 := by
  have k : ∀ b m, [cn (b + 2 * m) + 2, cn (b + 2 * m) + 8, cn (b + 1 + 2 * m)].all (fun i => mA9.testBit i) = true → bA9 W b m = true := fun b m hz => List.all_eq_true.mpr (fun i hi => by
    rw [Bool.not_eq_true']
    exact mx_f hW (List.all_eq_true.mp hz i hi))
  exact ⟨fun m hm => rA_f hM (k 4 m (mA_b m hm).1) (h.1 m hm), fun m hm => rA_f hM (k 78 m (mA_b m hm).2) (h.2 m hm)⟩
theorem bA_s : (∀ m, m < 32 → ∀ j, j < 32 → (j ≠ m → bA9 (WT m) 4 j = true) ∧ bA9 (WT m) 78 j = true) ∧ (∀ j, j < 32 → (kk_8.2.2.2.1.testBit (cn (4 + 2 * j) + 8) = false ∧ kk_8.2.2.2.1.testBit (cn (4 + 1 + 2 * j)) = false) ∧ bA9 kk_8.2.2.2.1 78 j = true) ∧ (∀ j, j < 32 → bA9 kk_57.2.2.2.1 4 j = true) ∧ ∀ j, j < 32 → bA9 kk_59.2.2.2.1 78 j = true := by decide +kernel
/-- an op whose class side keeps RA, whose reference writes none of it -/
theorem pr_kA {R : pH → Prop} {μ ν : Nat} {as : List pv} {τ : Nat} {q : Bool} {g : pH} {V : Nat} (h : pr_ R μ ν as τ q g) (h1 : t_X 99 μ 0 (px_ar 0 (pvR 0 :: as)) [] g (fun o => RA o.2)) (h2 : t_X 99 μ 0 (px_ar 0 (pvR 0 :: as)) [] g (fun o => g_I eG o.2 ∧ xL o.2)) (h3 : ∀ g1 : pH, g_I eG g1 → xL g1 → t_X 99 ν 0 (px_ar 0 (pvR 196 :: as)) [] g1 (fun o2 => f_M V g1 o2.2)) (hV : V &&& mA9 = 0) : pr_ (fun g => R g ∧ RA g) μ ν as τ q g := t_mono (t_and h (t_and h1 h2)) (fun o ho => by
  obtain ⟨⟨v, a1, a2, a3⟩, b1, b2, b3⟩ := ho
  refine ⟨v, a1, a2, t_mono (t_and a3 (h3 _ b2 b3)) (fun o2 ho2 => ?_)⟩
  obtain ⟨⟨w, k1, k2, k3, k4, k5, k6⟩, k7⟩ := ho2
  exact ⟨w, k1, k2, k3, k4, ⟨k5, RA_f k7 hV b1⟩, k6⟩)
def R30 (g : pH) : Prop := R17 g ∧ RA g
theorem me9_0 : kk_0.2.2.2.1 &&& mA9 = 0 := by decide +kernel
theorem me9_1 : kk_1.2.2.2.1 &&& mA9 = 0 := by decide +kernel
theorem pwA_feed {g : pH} (hG : g_I eG g) (hx : xL g) (hR : R0 g) (hT : RA g) (x1 x2 x3 x4 x5 : Int32) : pr_ RA 119 189 [.inl x1, .inl x2, .inl x3, .inl x4, .inl x5] 0 false g := by
  unfold pr_
  refine kc_go (k := kk_0) in_k0 rfl (by decide) hG hx (vs := [pvR 0, .inl x1, .inl x2, .inl x3, .inl x4, .inl x5]) (xs := [cv (pvR 0), x1.toInt, x2.toInt, x3.toInt, x4.toInt, x5.toInt]) ⟨by decide, ⟨⟨pvR 0, rfl, rfl, rfl, ok_0⟩, ⟨.inl x1, rfl, rfl, rfl, ok_full32 _⟩, ⟨.inl x2, rfl, rfl, rfl, ok_full32 _⟩, ⟨.inl x3, rfl, rfl, rfl, ok_full32 _⟩, ⟨.inl x4, rfl, rfl, rfl, ok_full32 _⟩, ⟨.inl x5, rfl, rfl, rfl, ok_full32 _⟩, trivial⟩, trivial, fun c hc => by cases hc⟩ rfl (n := 0) (by decide +kernel) (fun v1 g1 c1 G1 X1 M1 => ⟨v1, rfl, c1, ?_⟩)
  have Q1 := RA_f M1 me9_0 hT
  exact kc_go (k := kk_1) in_k1 rfl (by decide) G1 X1 (vs := [pvR 196, .inl x1, .inl x2, .inl x3, .inl x4, .inl x5]) (xs := [cv (pvR 196), x1.toInt, x2.toInt, x3.toInt, x4.toInt, x5.toInt]) ⟨by decide, ⟨⟨pvR 196, rfl, rfl, rfl, ok_this⟩, ⟨.inl x1, rfl, rfl, rfl, ok_full32 _⟩, ⟨.inl x2, rfl, rfl, rfl, ok_full32 _⟩, ⟨.inl x3, rfl, rfl, rfl, ok_full32 _⟩, ⟨.inl x4, rfl, rfl, rfl, ok_full32 _⟩, ⟨.inl x5, rfl, rfl, rfl, ok_full32 _⟩, trivial⟩, trivial, fun c hc => by cases hc⟩ rfl (n := 0) (by decide +kernel) (fun v2 g2 c2 G2 X2 M2 => ⟨v2, rfl, c2, G2, X2, RA_f M2 me9_1 Q1, fun z => by cases z⟩)
theorem me9_2 : kk_4.2.2.2.1 &&& mA9 = 0 := by decide +kernel
theorem me9_3 : kk_5.2.2.2.1 &&& mA9 = 0 := by decide +kernel
theorem pwA_put {g : pH} (hG : g_I eG g) (hx : xL g) (hR : R0 g) (hT : RA g) (x1 x2 : Int32) : pr_ RA 139 231 [.inl x1, .inl x2] 0 false g := by
  unfold pr_
  refine kc_go (k := kk_4) in_k4 rfl (by decide) hG hx (vs := [pvR 0, .inl x1, .inl x2]) (xs := [cv (pvR 0), x1.toInt, x2.toInt]) ⟨by decide, ⟨⟨pvR 0, rfl, rfl, rfl, ok_0⟩, ⟨.inl x1, rfl, rfl, rfl, ok_full32 _⟩, ⟨.inl x2, rfl, rfl, rfl, ok_full32 _⟩, trivial⟩, trivial, fun c hc => by cases hc⟩ rfl (n := 0) (by decide +kernel) (fun v1 g1 c1 G1 X1 M1 => ⟨v1, rfl, c1, ?_⟩)
  have Q1 := RA_f M1 me9_2 hT
  exact kc_go (k := kk_5) in_k5 rfl (by decide) G1 X1 (vs := [pvR 196, .inl x1, .inl x2]) (xs := [cv (pvR 196), x1.toInt, x2.toInt]) ⟨by decide, ⟨⟨pvR 196, rfl, rfl, rfl, ok_this⟩, ⟨.inl x1, rfl, rfl, rfl, ok_full32 _⟩, ⟨.inl x2, rfl, rfl, rfl, ok_full32 _⟩, trivial⟩, trivial, fun c hc => by cases hc⟩ rfl (n := 0) (by decide +kernel) (fun v2 g2 c2 G2 X2 M2 => ⟨v2, rfl, c2, G2, X2, RA_f M2 me9_3 Q1, fun z => by cases z⟩)
theorem me9_4 : kk_6.2.2.2.1 &&& mA9 = 0 := by decide +kernel
theorem me9_5 : kk_7.2.2.2.1 &&& mA9 = 0 := by decide +kernel
theorem pwA_day {g : pH} (hG : g_I eG g) (hx : xL g) (hR : R0 g) (hT : RA g) (x1 x2 : Int32) : pr_ RA 116 183 [.inl x1, .inl x2] 0 false g := by
  unfold pr_
  refine kc_go (k := kk_6) in_k6 rfl (by decide) hG hx (vs := [pvR 0, .inl x1, .inl x2]) (xs := [cv (pvR 0), x1.toInt, x2.toInt]) ⟨by decide, ⟨⟨pvR 0, rfl, rfl, rfl, ok_0⟩, ⟨.inl x1, rfl, rfl, rfl, ok_full32 _⟩, ⟨.inl x2, rfl, rfl, rfl, ok_full32 _⟩, trivial⟩, trivial, fun c hc => by cases hc⟩ rfl (n := 0) (by decide +kernel) (fun v1 g1 c1 G1 X1 M1 => ⟨v1, rfl, c1, ?_⟩)
  have Q1 := RA_f M1 me9_4 hT
  exact kc_go (k := kk_7) in_k7 rfl (by decide) G1 X1 (vs := [pvR 196, .inl x1, .inl x2]) (xs := [cv (pvR 196), x1.toInt, x2.toInt]) ⟨by decide, ⟨⟨pvR 196, rfl, rfl, rfl, ok_this⟩, ⟨.inl x1, rfl, rfl, rfl, ok_full32 _⟩, ⟨.inl x2, rfl, rfl, rfl, ok_full32 _⟩, trivial⟩, trivial, fun c hc => by cases hc⟩ rfl (n := 0) (by decide +kernel) (fun v2 g2 c2 G2 X2 M2 => ⟨v2, rfl, c2, G2, X2, RA_f M2 me9_5 Q1, fun z => by cases z⟩)
theorem me9_6 : kk_10.2.2.2.1 &&& mA9 = 0 := by decide +kernel
theorem me9_7 : kk_11.2.2.2.1 &&& mA9 = 0 := by decide +kernel
theorem pwA_looker {g : pH} (hG : g_I eG g) (hx : xL g) (hR : R0 g) (hT : RA g) (x1 x2 x3 : Int32) : pr_ RA 134 221 [.inl x1, .inl x2, .inl x3] 0 false g := by
  unfold pr_
  refine kc_go (k := kk_10) in_k10 rfl (by decide) hG hx (vs := [pvR 0, .inl x1, .inl x2, .inl x3]) (xs := [cv (pvR 0), x1.toInt, x2.toInt, x3.toInt]) ⟨by decide, ⟨⟨pvR 0, rfl, rfl, rfl, ok_0⟩, ⟨.inl x1, rfl, rfl, rfl, ok_full32 _⟩, ⟨.inl x2, rfl, rfl, rfl, ok_full32 _⟩, ⟨.inl x3, rfl, rfl, rfl, ok_full32 _⟩, trivial⟩, trivial, fun c hc => by cases hc⟩ rfl (n := 0) (by decide +kernel) (fun v1 g1 c1 G1 X1 M1 => ⟨v1, rfl, c1, ?_⟩)
  have Q1 := RA_f M1 me9_6 hT
  exact kc_go (k := kk_11) in_k11 rfl (by decide) G1 X1 (vs := [pvR 196, .inl x1, .inl x2, .inl x3]) (xs := [cv (pvR 196), x1.toInt, x2.toInt, x3.toInt]) ⟨by decide, ⟨⟨pvR 196, rfl, rfl, rfl, ok_this⟩, ⟨.inl x1, rfl, rfl, rfl, ok_full32 _⟩, ⟨.inl x2, rfl, rfl, rfl, ok_full32 _⟩, ⟨.inl x3, rfl, rfl, rfl, ok_full32 _⟩, trivial⟩, trivial, fun c hc => by cases hc⟩ rfl (n := 0) (by decide +kernel) (fun v2 g2 c2 G2 X2 M2 => ⟨v2, rfl, c2, G2, X2, RA_f M2 me9_7 Q1, fun z => by cases z⟩)
theorem me9_8 : kk_12.2.2.2.1 &&& mA9 = 0 := by decide +kernel
theorem me9_9 : kk_13.2.2.2.1 &&& mA9 = 0 := by decide +kernel
theorem pwA_lamps {g : pH} (hG : g_I eG g) (hx : xL g) (hR : R0 g) (hT : RA g) (x1 : Int32) : pr_ RA 128 211 [.inl x1] 0 false g := by
  unfold pr_
  refine kc_go (k := kk_12) in_k12 rfl (by decide) hG hx (vs := [pvR 0, .inl x1]) (xs := [cv (pvR 0), x1.toInt]) ⟨by decide, ⟨⟨pvR 0, rfl, rfl, rfl, ok_0⟩, ⟨.inl x1, rfl, rfl, rfl, ok_full32 _⟩, trivial⟩, trivial, fun c hc => by cases hc⟩ rfl (n := 0) (by decide +kernel) (fun v1 g1 c1 G1 X1 M1 => ⟨v1, rfl, c1, ?_⟩)
  have Q1 := RA_f M1 me9_8 hT
  exact kc_go (k := kk_13) in_k13 rfl (by decide) G1 X1 (vs := [pvR 196, .inl x1]) (xs := [cv (pvR 196), x1.toInt]) ⟨by decide, ⟨⟨pvR 196, rfl, rfl, rfl, ok_this⟩, ⟨.inl x1, rfl, rfl, rfl, ok_full32 _⟩, trivial⟩, trivial, fun c hc => by cases hc⟩ rfl (n := 0) (by decide +kernel) (fun v2 g2 c2 G2 X2 M2 => ⟨v2, rfl, c2, G2, X2, RA_f M2 me9_9 Q1, fun z => by cases z⟩)
theorem me9_10 : kk_20.2.2.2.1 &&& mA9 = 0 := by decide +kernel
theorem me9_11 : Wt &&& mA9 = 0 := by decide +kernel
theorem pwA_tray {g : pH} (hG : g_I eG g) (hx : xL g) (hR : R0 g) (hT : RA g) (x1 : Int32) : pr_ RA 157 264 [.inl x1] 0 false g := by
  unfold pr_
  refine kc_go (k := kk_20) in_k20 rfl (by decide) hG hx (vs := [pvR 0, .inl x1]) (xs := [cv (pvR 0), x1.toInt]) ⟨by decide, ⟨⟨pvR 0, rfl, rfl, rfl, ok_0⟩, ⟨.inl x1, rfl, rfl, rfl, ok_full32 _⟩, trivial⟩, trivial, fun c hc => by cases hc⟩ rfl (n := 0) (by decide +kernel) (fun v1 g1 c1 G1 X1 M1 => ⟨v1, rfl, c1, ?_⟩)
  have Q1 := RA_f M1 me9_10 hT
  exact ty9_run (n := x1.toInt) (by decide) G1 (i32_b _) (fun z2 g2 v2 J2 t2 => ⟨_, rfl, rfl, J2.1, xL_K _ _ _ J2.2 Wt_a.2.2.2.2 X1, RA_f J2.2 me9_11 Q1, fun z => by cases z⟩) (fun z2 => ⟨_, rfl, rfl, G1, X1, Q1, fun z => by cases z⟩) rfl (congrArg some (oI_r x1))
theorem me9_12 : kk_23.2.2.2.1 &&& mA9 = 0 := by decide +kernel
theorem me9_13 : WL &&& mA9 = 0 := by decide +kernel
theorem pwA_law {g : pH} (hG : g_I eG g) (hx : xL g) (hR : R0 g) (hT : RA g) (x1 : Int32) : pr_ RA 129 213 [.inl x1] 0 false g := by
  unfold pr_
  refine kc_go (k := kk_23) in_k23 rfl (by decide) hG hx (vs := [pvR 0, .inl x1]) (xs := [cv (pvR 0), x1.toInt]) ⟨by decide, ⟨⟨pvR 0, rfl, rfl, rfl, ok_0⟩, ⟨.inl x1, rfl, rfl, rfl, ok_full32 _⟩, trivial⟩, trivial, fun c hc => by cases hc⟩ rfl (n := 0) (by decide +kernel) (fun v1 g1 c1 G1 X1 M1 => ⟨v1, rfl, c1, ?_⟩)
  have Q1 := RA_f M1 me9_12 hT
  exact lw9_run (n := x1.toInt) (by decide) G1 X1 (i32_b _) (fun z2 g2 v2 J2 X2 t2 => ⟨_, rfl, rfl, J2.1, X2, RA_f J2.2 me9_13 Q1, fun z => by cases z⟩) (fun z2 => ⟨_, rfl, rfl, G1, X1, Q1, fun z => by cases z⟩) rfl (congrArg some (oI_r x1))
theorem me9_14 : kk_14.2.2.2.1 &&& mA9 = 0 := by decide +kernel
theorem me9_15 : kk_15.2.2.2.1 &&& mA9 = 0 := by decide +kernel
theorem pwA_ways {g : pH} (hG : g_I eG g) (hx : xL g) (hR : R0 g) (hT : RA g) (x1 x2 x3 : Int32) : pr_ RA 164 273 [.inl x1, .inl x2, .inl x3] 0 false g := by
  unfold pr_
  refine kc_go (k := kk_14) in_k14 rfl (by decide) hG hx (vs := [pvR 0, .inl x1, .inl x2, .inl x3]) (xs := [cv (pvR 0), x1.toInt, x2.toInt, x3.toInt]) ⟨by decide, ⟨⟨pvR 0, rfl, rfl, rfl, ok_0⟩, ⟨.inl x1, rfl, rfl, rfl, ok_full32 _⟩, ⟨.inl x2, rfl, rfl, rfl, ok_full32 _⟩, ⟨.inl x3, rfl, rfl, rfl, ok_full32 _⟩, trivial⟩, trivial, fun c hc => by cases hc⟩ rfl (n := 0) (by decide +kernel) (fun v1 g1 c1 G1 X1 M1 => ⟨v1, rfl, c1, ?_⟩)
  have Q1 := RA_f M1 me9_14 hT
  exact kc_go (k := kk_15) in_k15 rfl (by decide) G1 X1 (vs := [pvR 196, .inl x1, .inl x2, .inl x3]) (xs := [cv (pvR 196), x1.toInt, x2.toInt, x3.toInt]) ⟨by decide, ⟨⟨pvR 196, rfl, rfl, rfl, ok_this⟩, ⟨.inl x1, rfl, rfl, rfl, ok_full32 _⟩, ⟨.inl x2, rfl, rfl, rfl, ok_full32 _⟩, ⟨.inl x3, rfl, rfl, rfl, ok_full32 _⟩, trivial⟩, trivial, fun c hc => by cases hc⟩ rfl (n := 0) (by decide +kernel) (fun v2 g2 c2 G2 X2 M2 => ⟨v2, rfl, c2, G2, X2, RA_f M2 me9_15 Q1, fun z => by cases z⟩)
theorem me9_16 : kk_16.2.2.2.1 &&& mA9 = 0 := by decide +kernel
theorem me9_17 : kk_17.2.2.2.1 &&& mA9 = 0 := by decide +kernel
theorem pwA_shown {g : pH} (hG : g_I eG g) (hx : xL g) (hR : R0 g) (hT : RA g) (x1 x2 x3 : Int32) : pr_ RA 146 247 [.inl x1, .inl x2, .inl x3] 0 false g := by
  unfold pr_
  refine kc_go (k := kk_16) in_k16 rfl (by decide) hG hx (vs := [pvR 0, .inl x1, .inl x2, .inl x3]) (xs := [cv (pvR 0), x1.toInt, x2.toInt, x3.toInt]) ⟨by decide, ⟨⟨pvR 0, rfl, rfl, rfl, ok_0⟩, ⟨.inl x1, rfl, rfl, rfl, ok_full32 _⟩, ⟨.inl x2, rfl, rfl, rfl, ok_full32 _⟩, ⟨.inl x3, rfl, rfl, rfl, ok_full32 _⟩, trivial⟩, trivial, fun c hc => by cases hc⟩ rfl (n := 0) (by decide +kernel) (fun v1 g1 c1 G1 X1 M1 => ⟨v1, rfl, c1, ?_⟩)
  have Q1 := RA_f M1 me9_16 hT
  exact kc_go (k := kk_17) in_k17 rfl (by decide) G1 X1 (vs := [pvR 196, .inl x1, .inl x2, .inl x3]) (xs := [cv (pvR 196), x1.toInt, x2.toInt, x3.toInt]) ⟨by decide, ⟨⟨pvR 196, rfl, rfl, rfl, ok_this⟩, ⟨.inl x1, rfl, rfl, rfl, ok_full32 _⟩, ⟨.inl x2, rfl, rfl, rfl, ok_full32 _⟩, ⟨.inl x3, rfl, rfl, rfl, ok_full32 _⟩, trivial⟩, trivial, fun c hc => by cases hc⟩ rfl (n := 0) (by decide +kernel) (fun v2 g2 c2 G2 X2 M2 => ⟨v2, rfl, c2, G2, X2, RA_f M2 me9_17 Q1, fun z => by cases z⟩)
theorem me9_18 : kk_18.2.2.2.1 &&& mA9 = 0 := by decide +kernel
theorem me9_19 : kk_19.2.2.2.1 &&& mA9 = 0 := by decide +kernel
theorem pwA_slideIs {g : pH} (hG : g_I eG g) (hx : xL g) (hR : R0 g) (hT : RA g) (x1 x2 : Int32) : pr_ RA 148 252 [.inl x1, .inl x2] 0 false g := by
  unfold pr_
  refine kc_go (k := kk_18) in_k18 rfl (by decide) hG hx (vs := [pvR 0, .inl x1, .inl x2]) (xs := [cv (pvR 0), x1.toInt, x2.toInt]) ⟨by decide, ⟨⟨pvR 0, rfl, rfl, rfl, ok_0⟩, ⟨.inl x1, rfl, rfl, rfl, ok_full32 _⟩, ⟨.inl x2, rfl, rfl, rfl, ok_full32 _⟩, trivial⟩, trivial, fun c hc => by cases hc⟩ rfl (n := 0) (by decide +kernel) (fun v1 g1 c1 G1 X1 M1 => ⟨v1, rfl, c1, ?_⟩)
  have Q1 := RA_f M1 me9_18 hT
  exact kc_go (k := kk_19) in_k19 rfl (by decide) G1 X1 (vs := [pvR 196, .inl x1, .inl x2]) (xs := [cv (pvR 196), x1.toInt, x2.toInt]) ⟨by decide, ⟨⟨pvR 196, rfl, rfl, rfl, ok_this⟩, ⟨.inl x1, rfl, rfl, rfl, ok_full32 _⟩, ⟨.inl x2, rfl, rfl, rfl, ok_full32 _⟩, trivial⟩, trivial, fun c hc => by cases hc⟩ rfl (n := 0) (by decide +kernel) (fun v2 g2 c2 G2 X2 M2 => ⟨v2, rfl, c2, G2, X2, RA_f M2 me9_19 Q1, fun z => by cases z⟩)
theorem me9_20 : kk_21.2.2.2.1 &&& mA9 = 0 := by decide +kernel
theorem me9_21 : kk_22.2.2.2.1 &&& mA9 = 0 := by decide +kernel
theorem pwA_inTray {g : pH} (hG : g_I eG g) (hx : xL g) (hR : R0 g) (hT : RA g) (x1 : Int32) : pr_ RA 122 200 [.inl x1] 0 false g := by
  unfold pr_
  refine kc_go (k := kk_21) in_k21 rfl (by decide) hG hx (vs := [pvR 0, .inl x1]) (xs := [cv (pvR 0), x1.toInt]) ⟨by decide, ⟨⟨pvR 0, rfl, rfl, rfl, ok_0⟩, ⟨.inl x1, rfl, rfl, rfl, ok_full32 _⟩, trivial⟩, trivial, fun c hc => by cases hc⟩ rfl (n := 0) (by decide +kernel) (fun v1 g1 c1 G1 X1 M1 => ⟨v1, rfl, c1, ?_⟩)
  have Q1 := RA_f M1 me9_20 hT
  exact kc_go (k := kk_22) in_k22 rfl (by decide) G1 X1 (vs := [pvR 196, .inl x1]) (xs := [cv (pvR 196), x1.toInt]) ⟨by decide, ⟨⟨pvR 196, rfl, rfl, rfl, ok_this⟩, ⟨.inl x1, rfl, rfl, rfl, ok_full32 _⟩, trivial⟩, trivial, fun c hc => by cases hc⟩ rfl (n := 0) (by decide +kernel) (fun v2 g2 c2 G2 X2 M2 => ⟨v2, rfl, c2, G2, X2, RA_f M2 me9_21 Q1, fun z => by cases z⟩)
theorem me9_22 : kk_24.2.2.2.1 &&& mA9 = 0 := by decide +kernel
theorem me9_23 : kk_25.2.2.2.1 &&& mA9 = 0 := by decide +kernel
theorem pwA_evening {g : pH} (hG : g_I eG g) (hx : xL g) (hR : R0 g) (hT : RA g) : pr_ RA 118 187 [] 0 false g := by
  unfold pr_
  refine kc_go (k := kk_24) in_k24 rfl (by decide) hG hx (vs := [pvR 0]) (xs := [cv (pvR 0)]) ⟨by decide, ⟨⟨pvR 0, rfl, rfl, rfl, ok_0⟩, trivial⟩, trivial, fun c hc => by cases hc⟩ rfl (n := 0) (by decide +kernel) (fun v1 g1 c1 G1 X1 M1 => ⟨v1, rfl, c1, ?_⟩)
  have Q1 := RA_f M1 me9_22 hT
  exact kc_go (k := kk_25) in_k25 rfl (by decide) G1 X1 (vs := [pvR 196]) (xs := [cv (pvR 196)]) ⟨by decide, ⟨⟨pvR 196, rfl, rfl, rfl, ok_this⟩, trivial⟩, trivial, fun c hc => by cases hc⟩ rfl (n := 0) (by decide +kernel) (fun v2 g2 c2 G2 X2 M2 => ⟨v2, rfl, c2, G2, X2, RA_f M2 me9_23 Q1, fun z => by cases z⟩)
theorem me9_24 : kk_26.2.2.2.1 &&& mA9 = 0 := by decide +kernel
theorem me9_25 : kk_27.2.2.2.1 &&& mA9 = 0 := by decide +kernel
theorem pwA_tried {g : pH} (hG : g_I eG g) (hx : xL g) (hR : R0 g) (hT : RA g) (x1 : Int32) : pr_ RA 158 265 [.inl x1] 0 false g := by
  unfold pr_
  refine kc_go (k := kk_26) in_k26 rfl (by decide) hG hx (vs := [pvR 0, .inl x1]) (xs := [cv (pvR 0), x1.toInt]) ⟨by decide, ⟨⟨pvR 0, rfl, rfl, rfl, ok_0⟩, ⟨.inl x1, rfl, rfl, rfl, ok_full32 _⟩, trivial⟩, trivial, fun c hc => by cases hc⟩ rfl (n := 0) (by decide +kernel) (fun v1 g1 c1 G1 X1 M1 => ⟨v1, rfl, c1, ?_⟩)
  have Q1 := RA_f M1 me9_24 hT
  exact kc_go (k := kk_27) in_k27 rfl (by decide) G1 X1 (vs := [pvR 196, .inl x1]) (xs := [cv (pvR 196), x1.toInt]) ⟨by decide, ⟨⟨pvR 196, rfl, rfl, rfl, ok_this⟩, ⟨.inl x1, rfl, rfl, rfl, ok_full32 _⟩, trivial⟩, trivial, fun c hc => by cases hc⟩ rfl (n := 0) (by decide +kernel) (fun v2 g2 c2 G2 X2 M2 => ⟨v2, rfl, c2, G2, X2, RA_f M2 me9_25 Q1, fun z => by cases z⟩)
theorem me9_26 : kk_28.2.2.2.1 &&& mA9 = 0 := by decide +kernel
theorem me9_27 : kk_29.2.2.2.1 &&& mA9 = 0 := by decide +kernel
theorem pwA_odds {g : pH} (hG : g_I eG g) (hx : xL g) (hR : R0 g) (hT : RA g) (x1 x2 x3 x4 : Int32) : pr_ RA 137 228 [.inl x1, .inl x2, .inl x3, .inl x4] 0 false g := by
  unfold pr_
  refine kc_go (k := kk_28) in_k28 rfl (by decide) hG hx (vs := [pvR 0, .inl x1, .inl x2, .inl x3, .inl x4]) (xs := [cv (pvR 0), x1.toInt, x2.toInt, x3.toInt, x4.toInt]) ⟨by decide, ⟨⟨pvR 0, rfl, rfl, rfl, ok_0⟩, ⟨.inl x1, rfl, rfl, rfl, ok_full32 _⟩, ⟨.inl x2, rfl, rfl, rfl, ok_full32 _⟩, ⟨.inl x3, rfl, rfl, rfl, ok_full32 _⟩, ⟨.inl x4, rfl, rfl, rfl, ok_full32 _⟩, trivial⟩, trivial, fun c hc => by cases hc⟩ rfl (n := 0) (by decide +kernel) (fun v1 g1 c1 G1 X1 M1 => ⟨v1, rfl, c1, ?_⟩)
  have Q1 := RA_f M1 me9_26 hT
  exact kc_go (k := kk_29) in_k29 rfl (by decide) G1 X1 (vs := [pvR 196, .inl x1, .inl x2, .inl x3, .inl x4]) (xs := [cv (pvR 196), x1.toInt, x2.toInt, x3.toInt, x4.toInt]) ⟨by decide, ⟨⟨pvR 196, rfl, rfl, rfl, ok_this⟩, ⟨.inl x1, rfl, rfl, rfl, ok_full32 _⟩, ⟨.inl x2, rfl, rfl, rfl, ok_full32 _⟩, ⟨.inl x3, rfl, rfl, rfl, ok_full32 _⟩, ⟨.inl x4, rfl, rfl, rfl, ok_full32 _⟩, trivial⟩, trivial, fun c hc => by cases hc⟩ rfl (n := 0) (by decide +kernel) (fun v2 g2 c2 G2 X2 M2 => ⟨v2, rfl, c2, G2, X2, RA_f M2 me9_27 Q1, fun z => by cases z⟩)
theorem me9_28 : kk_30.2.2.2.1 &&& mA9 = 0 := by decide +kernel
theorem me9_29 : kk_31.2.2.2.1 &&& mA9 = 0 := by decide +kernel
theorem pwA_toTurn {g : pH} (hG : g_I eG g) (hx : xL g) (hR : R0 g) (hT : RA g) (x1 x2 : Int32) : pr_ RA 156 263 [.inl x1, .inl x2] 1 false g := by
  unfold pr_
  refine kc_go (k := kk_30) in_k30 rfl (by decide) hG hx (vs := [pvR 0, .inl x1, .inl x2]) (xs := [cv (pvR 0), x1.toInt, x2.toInt]) ⟨by decide, ⟨⟨pvR 0, rfl, rfl, rfl, ok_0⟩, ⟨.inl x1, rfl, rfl, rfl, ok_full32 _⟩, ⟨.inl x2, rfl, rfl, rfl, ok_full32 _⟩, trivial⟩, trivial, fun c hc => by cases hc⟩ rfl (n := 1) (by decide +kernel) (fun v1 g1 c1 G1 X1 M1 => ⟨v1, rfl, c1, ?_⟩)
  have Q1 := RA_f M1 me9_28 hT
  exact kc_go (k := kk_31) in_k31 rfl (by decide) G1 X1 (vs := [pvR 196, .inl x1, .inl x2]) (xs := [cv (pvR 196), x1.toInt, x2.toInt]) ⟨by decide, ⟨⟨pvR 196, rfl, rfl, rfl, ok_this⟩, ⟨.inl x1, rfl, rfl, rfl, ok_full32 _⟩, ⟨.inl x2, rfl, rfl, rfl, ok_full32 _⟩, trivial⟩, trivial, fun c hc => by cases hc⟩ rfl (n := 1) (by decide +kernel) (fun v2 g2 c2 G2 X2 M2 => ⟨v2, rfl, c2, G2, X2, RA_f M2 me9_29 Q1, fun z => by cases z⟩)
theorem me9_30 : kk_32.2.2.2.1 &&& mA9 = 0 := by decide +kernel
theorem me9_31 : kk_33.2.2.2.1 &&& mA9 = 0 := by decide +kernel
theorem pwA_leave {g : pH} (hG : g_I eG g) (hx : xL g) (hR : R0 g) (hT : RA g) (x1 x2 : Int32) : pr_ RA 130 217 [.inl x1, .inl x2] 1 false g := by
  unfold pr_
  refine kc_go (k := kk_32) in_k32 rfl (by decide) hG hx (vs := [pvR 0, .inl x1, .inl x2]) (xs := [cv (pvR 0), x1.toInt, x2.toInt]) ⟨by decide, ⟨⟨pvR 0, rfl, rfl, rfl, ok_0⟩, ⟨.inl x1, rfl, rfl, rfl, ok_full32 _⟩, ⟨.inl x2, rfl, rfl, rfl, ok_full32 _⟩, trivial⟩, trivial, fun c hc => by cases hc⟩ rfl (n := 1) (by decide +kernel) (fun v1 g1 c1 G1 X1 M1 => ⟨v1, rfl, c1, ?_⟩)
  have Q1 := RA_f M1 me9_30 hT
  exact kc_go (k := kk_33) in_k33 rfl (by decide) G1 X1 (vs := [pvR 196, .inl x1, .inl x2]) (xs := [cv (pvR 196), x1.toInt, x2.toInt]) ⟨by decide, ⟨⟨pvR 196, rfl, rfl, rfl, ok_this⟩, ⟨.inl x1, rfl, rfl, rfl, ok_full32 _⟩, ⟨.inl x2, rfl, rfl, rfl, ok_full32 _⟩, trivial⟩, trivial, fun c hc => by cases hc⟩ rfl (n := 1) (by decide +kernel) (fun v2 g2 c2 G2 X2 M2 => ⟨v2, rfl, c2, G2, X2, RA_f M2 me9_31 Q1, fun z => by cases z⟩)
theorem me9_32 : kk_36.2.2.2.1 &&& mA9 = 0 := by decide +kernel
theorem me9_33 : kk_37.2.2.2.1 &&& mA9 = 0 := by decide +kernel
theorem pwA_sure {g : pH} (hG : g_I eG g) (hx : xL g) (hR : R0 g) (hT : RA g) (x1 x2 : Int32) : pr_ RA 150 258 [.inl x1, .inl x2] 0 false g := by
  unfold pr_
  refine kc_go (k := kk_36) in_k36 rfl (by decide) hG hx (vs := [pvR 0, .inl x1, .inl x2]) (xs := [cv (pvR 0), x1.toInt, x2.toInt]) ⟨by decide, ⟨⟨pvR 0, rfl, rfl, rfl, ok_0⟩, ⟨.inl x1, rfl, rfl, rfl, ok_full32 _⟩, ⟨.inl x2, rfl, rfl, rfl, ok_full32 _⟩, trivial⟩, trivial, fun c hc => by cases hc⟩ rfl (n := 0) (by decide +kernel) (fun v1 g1 c1 G1 X1 M1 => ⟨v1, rfl, c1, ?_⟩)
  have Q1 := RA_f M1 me9_32 hT
  exact kc_go (k := kk_37) in_k37 rfl (by decide) G1 X1 (vs := [pvR 196, .inl x1, .inl x2]) (xs := [cv (pvR 196), x1.toInt, x2.toInt]) ⟨by decide, ⟨⟨pvR 196, rfl, rfl, rfl, ok_this⟩, ⟨.inl x1, rfl, rfl, rfl, ok_full32 _⟩, ⟨.inl x2, rfl, rfl, rfl, ok_full32 _⟩, trivial⟩, trivial, fun c hc => by cases hc⟩ rfl (n := 0) (by decide +kernel) (fun v2 g2 c2 G2 X2 M2 => ⟨v2, rfl, c2, G2, X2, RA_f M2 me9_33 Q1, fun z => by cases z⟩)
theorem me9_34 : kk_38.2.2.2.1 &&& mA9 = 0 := by decide +kernel
theorem me9_35 : kk_39.2.2.2.1 &&& mA9 = 0 := by decide +kernel
theorem pwA_dots {g : pH} (hG : g_I eG g) (hx : xL g) (hR : R0 g) (hT : RA g) (x1 x2 : Int32) : pr_ RA 117 184 [.inl x1, .inl x2] 0 false g := by
  unfold pr_
  refine kc_go (k := kk_38) in_k38 rfl (by decide) hG hx (vs := [pvR 0, .inl x1, .inl x2]) (xs := [cv (pvR 0), x1.toInt, x2.toInt]) ⟨by decide, ⟨⟨pvR 0, rfl, rfl, rfl, ok_0⟩, ⟨.inl x1, rfl, rfl, rfl, ok_full32 _⟩, ⟨.inl x2, rfl, rfl, rfl, ok_full32 _⟩, trivial⟩, trivial, fun c hc => by cases hc⟩ rfl (n := 0) (by decide +kernel) (fun v1 g1 c1 G1 X1 M1 => ⟨v1, rfl, c1, ?_⟩)
  have Q1 := RA_f M1 me9_34 hT
  exact kc_go (k := kk_39) in_k39 rfl (by decide) G1 X1 (vs := [pvR 196, .inl x1, .inl x2]) (xs := [cv (pvR 196), x1.toInt, x2.toInt]) ⟨by decide, ⟨⟨pvR 196, rfl, rfl, rfl, ok_this⟩, ⟨.inl x1, rfl, rfl, rfl, ok_full32 _⟩, ⟨.inl x2, rfl, rfl, rfl, ok_full32 _⟩, trivial⟩, trivial, fun c hc => by cases hc⟩ rfl (n := 0) (by decide +kernel) (fun v2 g2 c2 G2 X2 M2 => ⟨v2, rfl, c2, G2, X2, RA_f M2 me9_35 Q1, fun z => by cases z⟩)
theorem me9_36 : kk_34.2.2.2.1 &&& mA9 = 0 := by decide +kernel
theorem me9_37 : kk_35.2.2.2.1 &&& mA9 = 0 := by decide +kernel
theorem pwA_lightBox {g : pH} (hG : g_I eG g) (hx : xL g) (hR : R0 g) (hT : RA g) (x1 x2 : Int32) : pr_ RA 132 219 [.inl x1, .inl x2] 1 false g := by
  unfold pr_
  refine kc_go (k := kk_34) in_k34 rfl (by decide) hG hx (vs := [pvR 0, .inl x1, .inl x2]) (xs := [cv (pvR 0), x1.toInt, x2.toInt]) ⟨by decide, ⟨⟨pvR 0, rfl, rfl, rfl, ok_0⟩, ⟨.inl x1, rfl, rfl, rfl, ok_full32 _⟩, ⟨.inl x2, rfl, rfl, rfl, ok_full32 _⟩, trivial⟩, trivial, fun c hc => by cases hc⟩ rfl (n := 1) (by decide +kernel) (fun v1 g1 c1 G1 X1 M1 => ⟨v1, rfl, c1, ?_⟩)
  have Q1 := RA_f M1 me9_36 hT
  exact kc_go (k := kk_35) in_k35 rfl (by decide) G1 X1 (vs := [pvR 196, .inl x1, .inl x2]) (xs := [cv (pvR 196), x1.toInt, x2.toInt]) ⟨by decide, ⟨⟨pvR 196, rfl, rfl, rfl, ok_this⟩, ⟨.inl x1, rfl, rfl, rfl, ok_full32 _⟩, ⟨.inl x2, rfl, rfl, rfl, ok_full32 _⟩, trivial⟩, trivial, fun c hc => by cases hc⟩ rfl (n := 1) (by decide +kernel) (fun v2 g2 c2 G2 X2 M2 => ⟨v2, rfl, c2, G2, X2, RA_f M2 me9_37 Q1, fun z => by cases z⟩)
theorem me9_38 : kk_40.2.2.2.1 &&& mA9 = 0 := by decide +kernel
theorem me9_39 : kk_41.2.2.2.1 &&& mA9 = 0 := by decide +kernel
theorem pwA_clue {g : pH} (hG : g_I eG g) (hx : xL g) (hR : R0 g) (hT : RA g) (x1 x2 : Int32) : pr_ RA 111 177 [.inl x1, .inl x2] 0 false g := by
  unfold pr_
  refine kc_go (k := kk_40) in_k40 rfl (by decide) hG hx (vs := [pvR 0, .inl x1, .inl x2]) (xs := [cv (pvR 0), x1.toInt, x2.toInt]) ⟨by decide, ⟨⟨pvR 0, rfl, rfl, rfl, ok_0⟩, ⟨.inl x1, rfl, rfl, rfl, ok_full32 _⟩, ⟨.inl x2, rfl, rfl, rfl, ok_full32 _⟩, trivial⟩, trivial, fun c hc => by cases hc⟩ rfl (n := 0) (by decide +kernel) (fun v1 g1 c1 G1 X1 M1 => ⟨v1, rfl, c1, ?_⟩)
  have Q1 := RA_f M1 me9_38 hT
  exact kc_go (k := kk_41) in_k41 rfl (by decide) G1 X1 (vs := [pvR 196, .inl x1, .inl x2]) (xs := [cv (pvR 196), x1.toInt, x2.toInt]) ⟨by decide, ⟨⟨pvR 196, rfl, rfl, rfl, ok_this⟩, ⟨.inl x1, rfl, rfl, rfl, ok_full32 _⟩, ⟨.inl x2, rfl, rfl, rfl, ok_full32 _⟩, trivial⟩, trivial, fun c hc => by cases hc⟩ rfl (n := 0) (by decide +kernel) (fun v2 g2 c2 G2 X2 M2 => ⟨v2, rfl, c2, G2, X2, RA_f M2 me9_39 Q1, fun z => by cases z⟩)
theorem me9_40 : kk_42.2.2.2.1 &&& mA9 = 0 := by decide +kernel
theorem me9_41 : Ws &&& mA9 = 0 := by decide +kernel
theorem pwA_spilt {g : pH} (hG : g_I eG g) (hx : xL g) (hR : R0 g) (hT : RA g) (x1 x2 : Int32) : pr_ RA 149 254 [.inl x1, .inl x2] 1 false g := by
  unfold pr_
  refine kc_go (k := kk_42) in_k42 rfl (by decide) hG hx (vs := [pvR 0, .inl x1, .inl x2]) (xs := [cv (pvR 0), x1.toInt, x2.toInt]) ⟨by decide, ⟨⟨pvR 0, rfl, rfl, rfl, ok_0⟩, ⟨.inl x1, rfl, rfl, rfl, ok_full32 _⟩, ⟨.inl x2, rfl, rfl, rfl, ok_full32 _⟩, trivial⟩, trivial, fun c hc => by cases hc⟩ rfl (n := 1) (by decide +kernel) (fun v1 g1 c1 G1 X1 M1 => ⟨v1, rfl, c1, ?_⟩)
  have Q1 := RA_f M1 me9_40 hT
  exact sp9_run (n := x1.toInt) (w := x2.toInt) (by decide) G1 (i32_b _) (i32_b _) (fun z2 g2 v2 J2 t2 => ⟨_, rfl, rfl, J2.1, xL_K _ _ _ J2.2 Ws_1.2.1 X1, RA_f J2.2 me9_41 Q1, fun z => by cases z⟩) (fun v2 z2 => ⟨_, rfl, rfl, G1, X1, Q1, fun z => by cases z⟩) rfl (congrArg some (oI_r x1)) (congrArg some (oI_r x2))
theorem me9_42 : kk_43.2.2.2.1 &&& mA9 = 0 := by decide +kernel
theorem pwA_says {g : pH} (hG : g_I eG g) (hx : xL g) (hR : R0 g) (hT : RA g) (x1 x2 x3 x4 : Int32) : pr_ RA 142 243 [.inl x1, .inl x2, .inl x3, .inl x4] 1 false g := by
  unfold pr_
  refine kc_go (k := kk_43) in_k43 rfl (by decide) hG hx (vs := [pvR 0, .inl x1, .inl x2, .inl x3, .inl x4]) (xs := [cv (pvR 0), x1.toInt, x2.toInt, x3.toInt, x4.toInt]) ⟨by decide, ⟨⟨pvR 0, rfl, rfl, rfl, ok_0⟩, ⟨.inl x1, rfl, rfl, rfl, ok_full32 _⟩, ⟨.inl x2, rfl, rfl, rfl, ok_full32 _⟩, ⟨.inl x3, rfl, rfl, rfl, ok_full32 _⟩, ⟨.inl x4, rfl, rfl, rfl, ok_full32 _⟩, trivial⟩, trivial, fun c hc => by cases hc⟩ rfl (n := 1) (by decide +kernel) (fun v1 g1 c1 G1 X1 M1 => ⟨v1, rfl, c1, ?_⟩)
  have Q1 := RA_f M1 me9_42 hT
  exact sy9_run (n := x1.toInt) (i := x2.toInt) (j := x3.toInt) (w := x4.toInt) (by decide) G1 (i32_b _) (i32_b _) (i32_b _) (i32_b _) (fun z2 g2 v2 J2 t2 => ⟨_, rfl, rfl, J2.1, xL_K _ _ _ J2.2 Ws_1.2.1 X1, RA_f J2.2 me9_41 Q1, fun z => by cases z⟩) (fun v2 z2 => ⟨_, rfl, rfl, G1, X1, Q1, fun z => by cases z⟩) rfl (congrArg some (oI_r x1)) (congrArg some (oI_r x2)) (congrArg some (oI_r x3)) (congrArg some (oI_r x4))
theorem me9_43 : kk_44.2.2.2.1 &&& mA9 = 0 := by decide +kernel
theorem me9_44 : kk_45.2.2.2.1 &&& mA9 = 0 := by decide +kernel
theorem pwA_shadow {g : pH} (hG : g_I eG g) (hx : xL g) (hR : R0 g) (hT : RA g) (x1 x2 x3 : Int32) : pr_ RA 145 246 [.inl x1, .inl x2, .inl x3] 0 false g := by
  unfold pr_
  refine kc_go (k := kk_44) in_k44 rfl (by decide) hG hx (vs := [pvR 0, .inl x1, .inl x2, .inl x3]) (xs := [cv (pvR 0), x1.toInt, x2.toInt, x3.toInt]) ⟨by decide, ⟨⟨pvR 0, rfl, rfl, rfl, ok_0⟩, ⟨.inl x1, rfl, rfl, rfl, ok_full32 _⟩, ⟨.inl x2, rfl, rfl, rfl, ok_full32 _⟩, ⟨.inl x3, rfl, rfl, rfl, ok_full32 _⟩, trivial⟩, trivial, fun c hc => by cases hc⟩ rfl (n := 0) (by decide +kernel) (fun v1 g1 c1 G1 X1 M1 => ⟨v1, rfl, c1, ?_⟩)
  have Q1 := RA_f M1 me9_43 hT
  exact kc_go (k := kk_45) in_k45 rfl (by decide) G1 X1 (vs := [pvR 196, .inl x1, .inl x2, .inl x3]) (xs := [cv (pvR 196), x1.toInt, x2.toInt, x3.toInt]) ⟨by decide, ⟨⟨pvR 196, rfl, rfl, rfl, ok_this⟩, ⟨.inl x1, rfl, rfl, rfl, ok_full32 _⟩, ⟨.inl x2, rfl, rfl, rfl, ok_full32 _⟩, ⟨.inl x3, rfl, rfl, rfl, ok_full32 _⟩, trivial⟩, trivial, fun c hc => by cases hc⟩ rfl (n := 0) (by decide +kernel) (fun v2 g2 c2 G2 X2 M2 => ⟨v2, rfl, c2, G2, X2, RA_f M2 me9_44 Q1, fun z => by cases z⟩)
theorem me9_45 : kk_46.2.2.2.1 &&& mA9 = 0 := by decide +kernel
theorem me9_46 : kk_47.2.2.2.1 &&& mA9 = 0 := by decide +kernel
theorem pwA_link {g : pH} (hG : g_I eG g) (hx : xL g) (hR : R0 g) (hT : RA g) (x1 x2 : Int32) : pr_ RA 133 220 [.inl x1, .inl x2] 0 false g := by
  unfold pr_
  refine kc_go (k := kk_46) in_k46 rfl (by decide) hG hx (vs := [pvR 0, .inl x1, .inl x2]) (xs := [cv (pvR 0), x1.toInt, x2.toInt]) ⟨by decide, ⟨⟨pvR 0, rfl, rfl, rfl, ok_0⟩, ⟨.inl x1, rfl, rfl, rfl, ok_full32 _⟩, ⟨.inl x2, rfl, rfl, rfl, ok_full32 _⟩, trivial⟩, trivial, fun c hc => by cases hc⟩ rfl (n := 0) (by decide +kernel) (fun v1 g1 c1 G1 X1 M1 => ⟨v1, rfl, c1, ?_⟩)
  have Q1 := RA_f M1 me9_45 hT
  exact kc_go (k := kk_47) in_k47 rfl (by decide) G1 X1 (vs := [pvR 196, .inl x1, .inl x2]) (xs := [cv (pvR 196), x1.toInt, x2.toInt]) ⟨by decide, ⟨⟨pvR 196, rfl, rfl, rfl, ok_this⟩, ⟨.inl x1, rfl, rfl, rfl, ok_full32 _⟩, ⟨.inl x2, rfl, rfl, rfl, ok_full32 _⟩, trivial⟩, trivial, fun c hc => by cases hc⟩ rfl (n := 0) (by decide +kernel) (fun v2 g2 c2 G2 X2 M2 => ⟨v2, rfl, c2, G2, X2, RA_f M2 me9_46 Q1, fun z => by cases z⟩)
theorem me9_47 : kk_48.2.2.2.1 &&& mA9 = 0 := by decide +kernel
theorem me9_48 : kk_49.2.2.2.1 &&& mA9 = 0 := by decide +kernel
theorem pwA_leftOut {g : pH} (hG : g_I eG g) (hx : xL g) (hR : R0 g) (hT : RA g) (x1 x2 : Int32) : pr_ RA 131 218 [.inl x1, .inl x2] 0 false g := by
  unfold pr_
  refine kc_go (k := kk_48) in_k48 rfl (by decide) hG hx (vs := [pvR 0, .inl x1, .inl x2]) (xs := [cv (pvR 0), x1.toInt, x2.toInt]) ⟨by decide, ⟨⟨pvR 0, rfl, rfl, rfl, ok_0⟩, ⟨.inl x1, rfl, rfl, rfl, ok_full32 _⟩, ⟨.inl x2, rfl, rfl, rfl, ok_full32 _⟩, trivial⟩, trivial, fun c hc => by cases hc⟩ rfl (n := 0) (by decide +kernel) (fun v1 g1 c1 G1 X1 M1 => ⟨v1, rfl, c1, ?_⟩)
  have Q1 := RA_f M1 me9_47 hT
  exact kc_go (k := kk_49) in_k49 rfl (by decide) G1 X1 (vs := [pvR 196, .inl x1, .inl x2]) (xs := [cv (pvR 196), x1.toInt, x2.toInt]) ⟨by decide, ⟨⟨pvR 196, rfl, rfl, rfl, ok_this⟩, ⟨.inl x1, rfl, rfl, rfl, ok_full32 _⟩, ⟨.inl x2, rfl, rfl, rfl, ok_full32 _⟩, trivial⟩, trivial, fun c hc => by cases hc⟩ rfl (n := 0) (by decide +kernel) (fun v2 g2 c2 G2 X2 M2 => ⟨v2, rfl, c2, G2, X2, RA_f M2 me9_48 Q1, fun z => by cases z⟩)
theorem me9_49 : kk_50.2.2.2.1 &&& mA9 = 0 := by decide +kernel
theorem me9_50 : kk_51.2.2.2.1 &&& mA9 = 0 := by decide +kernel
theorem pwA_lamp {g : pH} (hG : g_I eG g) (hx : xL g) (hR : R0 g) (hT : RA g) (x1 x2 x3 : Int32) : pr_ RA 127 210 [.inl x1, .inl x2, .inl x3] 1 false g := by
  unfold pr_
  refine kc_go (k := kk_50) in_k50 rfl (by decide) hG hx (vs := [pvR 0, .inl x1, .inl x2, .inl x3]) (xs := [cv (pvR 0), x1.toInt, x2.toInt, x3.toInt]) ⟨by decide, ⟨⟨pvR 0, rfl, rfl, rfl, ok_0⟩, ⟨.inl x1, rfl, rfl, rfl, ok_full32 _⟩, ⟨.inl x2, rfl, rfl, rfl, ok_full32 _⟩, ⟨.inl x3, rfl, rfl, rfl, ok_full32 _⟩, trivial⟩, trivial, fun c hc => by cases hc⟩ rfl (n := 1) (by decide +kernel) (fun v1 g1 c1 G1 X1 M1 => ⟨v1, rfl, c1, ?_⟩)
  have Q1 := RA_f M1 me9_49 hT
  exact kc_go (k := kk_51) in_k51 rfl (by decide) G1 X1 (vs := [pvR 196, .inl x1, .inl x2, .inl x3]) (xs := [cv (pvR 196), x1.toInt, x2.toInt, x3.toInt]) ⟨by decide, ⟨⟨pvR 196, rfl, rfl, rfl, ok_this⟩, ⟨.inl x1, rfl, rfl, rfl, ok_full32 _⟩, ⟨.inl x2, rfl, rfl, rfl, ok_full32 _⟩, ⟨.inl x3, rfl, rfl, rfl, ok_full32 _⟩, trivial⟩, trivial, fun c hc => by cases hc⟩ rfl (n := 1) (by decide +kernel) (fun v2 g2 c2 G2 X2 M2 => ⟨v2, rfl, c2, G2, X2, RA_f M2 me9_50 Q1, fun z => by cases z⟩)
theorem me9_51 : kk_52.2.2.2.1 &&& mA9 = 0 := by decide +kernel
theorem me9_52 : kk_53.2.2.2.1 &&& mA9 = 0 := by decide +kernel
theorem pwA_hand {g : pH} (hG : g_I eG g) (hx : xL g) (hR : R0 g) (hT : RA g) (x1 : Int32) : pr_ RA 121 195 [.inl x1] 1 false g := by
  unfold pr_
  refine kc_go (k := kk_52) in_k52 rfl (by decide) hG hx (vs := [pvR 0, .inl x1]) (xs := [cv (pvR 0), x1.toInt]) ⟨by decide, ⟨⟨pvR 0, rfl, rfl, rfl, ok_0⟩, ⟨.inl x1, rfl, rfl, rfl, ok_full32 _⟩, trivial⟩, trivial, fun c hc => by cases hc⟩ rfl (n := 1) (by decide +kernel) (fun v1 g1 c1 G1 X1 M1 => ⟨v1, rfl, c1, ?_⟩)
  have Q1 := RA_f M1 me9_51 hT
  exact kc_go (k := kk_53) in_k53 rfl (by decide) G1 X1 (vs := [pvR 196, .inl x1]) (xs := [cv (pvR 196), x1.toInt]) ⟨by decide, ⟨⟨pvR 196, rfl, rfl, rfl, ok_this⟩, ⟨.inl x1, rfl, rfl, rfl, ok_full32 _⟩, trivial⟩, trivial, fun c hc => by cases hc⟩ rfl (n := 1) (by decide +kernel) (fun v2 g2 c2 G2 X2 M2 => ⟨v2, rfl, c2, G2, X2, RA_f M2 me9_52 Q1, fun z => by cases z⟩)
theorem me9_53 : kk_54.2.2.2.1 &&& mA9 = 0 := by decide +kernel
theorem me9_54 : Wp &&& mA9 = 0 := by decide +kernel
theorem pwA_putIn {g : pH} (hG : g_I eG g) (hx : xL g) (hR : R0 g) (hT : RA g) : pr_ RA 140 232 [] 0 false g := by
  unfold pr_
  refine kc_go (k := kk_54) in_k54 rfl (by decide) hG hx (vs := [pvR 0]) (xs := [cv (pvR 0)]) ⟨by decide, ⟨⟨pvR 0, rfl, rfl, rfl, ok_0⟩, trivial⟩, trivial, fun c hc => by cases hc⟩ rfl (n := 0) (by decide +kernel) (fun v1 g1 c1 G1 X1 M1 => ⟨v1, rfl, c1, ?_⟩)
  have Q1 := RA_f M1 me9_53 hT
  exact pi_run (by decide) (by decide) G1 X1 (fun g2 z2 J2 => ⟨_, rfl, rfl, J2.1, xL_K _ _ _ J2.2 Wp_1.2.2.1 X1, RA_f J2.2 me9_54 Q1, fun z => by cases z⟩) rfl
theorem me9_55 : kk_55.2.2.2.1 &&& mA9 = 0 := by decide +kernel
theorem me9_56 : kk_56.2.2.2.1 &&& mA9 = 0 := by decide +kernel
theorem pwA_seed {g : pH} (hG : g_I eG g) (hx : xL g) (hR : R0 g) (hT : RA g) (x1 : Int32) : pr_ RA 144 245 [.inl x1] 0 false g := by
  unfold pr_
  refine kc_go (k := kk_55) in_k55 rfl (by decide) hG hx (vs := [pvR 0, .inl x1]) (xs := [cv (pvR 0), x1.toInt]) ⟨by decide, ⟨⟨pvR 0, rfl, rfl, rfl, ok_0⟩, ⟨.inl x1, rfl, rfl, rfl, ok_full32 _⟩, trivial⟩, trivial, fun c hc => by cases hc⟩ rfl (n := 0) (by decide +kernel) (fun v1 g1 c1 G1 X1 M1 => ⟨v1, rfl, c1, ?_⟩)
  have Q1 := RA_f M1 me9_55 hT
  exact kc_go (k := kk_56) in_k56 rfl (by decide) G1 X1 (vs := [pvR 196, .inl x1]) (xs := [cv (pvR 196), x1.toInt]) ⟨by decide, ⟨⟨pvR 196, rfl, rfl, rfl, ok_this⟩, ⟨.inl x1, rfl, rfl, rfl, ok_full32 _⟩, trivial⟩, trivial, fun c hc => by cases hc⟩ rfl (n := 0) (by decide +kernel) (fun v2 g2 c2 G2 X2 M2 => ⟨v2, rfl, c2, G2, X2, RA_f M2 me9_56 Q1, fun z => by cases z⟩)
theorem me9_57 : kk_61.2.2.2.1 &&& mA9 = 0 := by decide +kernel
theorem me9_58 : kk_62.2.2.2.1 &&& mA9 = 0 := by decide +kernel
theorem pwA_check {g : pH} (hG : g_I eG g) (hx : xL g) (hR : R0 g) (hT : RA g) (x1 x2 : Int32) : pr_ RA 110 174 [.inl x1, .inl x2] 0 false g := by
  unfold pr_
  refine kc_go (k := kk_61) in_k61 rfl (by decide) hG hx (vs := [pvR 0, .inl x1, .inl x2]) (xs := [cv (pvR 0), x1.toInt, x2.toInt]) ⟨by decide, ⟨⟨pvR 0, rfl, rfl, rfl, ok_0⟩, ⟨.inl x1, rfl, rfl, rfl, ok_full32 _⟩, ⟨.inl x2, rfl, rfl, rfl, ok_full32 _⟩, trivial⟩, trivial, fun c hc => by cases hc⟩ rfl (n := 0) (by decide +kernel) (fun v1 g1 c1 G1 X1 M1 => ⟨v1, rfl, c1, ?_⟩)
  have Q1 := RA_f M1 me9_57 hT
  exact kc_go (k := kk_62) in_k62 rfl (by decide) G1 X1 (vs := [pvR 196, .inl x1, .inl x2]) (xs := [cv (pvR 196), x1.toInt, x2.toInt]) ⟨by decide, ⟨⟨pvR 196, rfl, rfl, rfl, ok_this⟩, ⟨.inl x1, rfl, rfl, rfl, ok_full32 _⟩, ⟨.inl x2, rfl, rfl, rfl, ok_full32 _⟩, trivial⟩, trivial, fun c hc => by cases hc⟩ rfl (n := 0) (by decide +kernel) (fun v2 g2 c2 G2 X2 M2 => ⟨v2, rfl, c2, G2, X2, RA_f M2 me9_58 Q1, fun z => by cases z⟩)
theorem me9_59 : kk_63.2.2.2.1 &&& mA9 = 0 := by decide +kernel
theorem me9_60 : kk_64.2.2.2.1 &&& mA9 = 0 := by decide +kernel
theorem pwA_count {g : pH} (hG : g_I eG g) (hx : xL g) (hR : R0 g) (hT : RA g) (x1 : Int32) : pr_ RA 115 182 [.inl x1] 0 false g := by
  unfold pr_
  refine kc_go (k := kk_63) in_k63 rfl (by decide) hG hx (vs := [pvR 0, .inl x1]) (xs := [cv (pvR 0), x1.toInt]) ⟨by decide, ⟨⟨pvR 0, rfl, rfl, rfl, ok_0⟩, ⟨.inl x1, rfl, rfl, rfl, ok_full32 _⟩, trivial⟩, trivial, fun c hc => by cases hc⟩ rfl (n := 0) (by decide +kernel) (fun v1 g1 c1 G1 X1 M1 => ⟨v1, rfl, c1, ?_⟩)
  have Q1 := RA_f M1 me9_59 hT
  exact kc_go (k := kk_64) in_k64 rfl (by decide) G1 X1 (vs := [pvR 196, .inl x1]) (xs := [cv (pvR 196), x1.toInt]) ⟨by decide, ⟨⟨pvR 196, rfl, rfl, rfl, ok_this⟩, ⟨.inl x1, rfl, rfl, rfl, ok_full32 _⟩, trivial⟩, trivial, fun c hc => by cases hc⟩ rfl (n := 0) (by decide +kernel) (fun v2 g2 c2 G2 X2 M2 => ⟨v2, rfl, c2, G2, X2, RA_f M2 me9_60 Q1, fun z => by cases z⟩)
theorem psA_slide {g : pH} (hG : g_I eG g) (hx : xL g) (hR : R0 g) (hT : RA g) (x1 x2 x3 x4 : Int32) : t_X 99 147 0 (px_ar 0 [pvR 0, .inl x1, .inl x2, .inl x3, .inl x4]) [] g (fun o => RA o.2) := by
  obtain ⟨h1, -⟩ := bA_s
  refine vsm_run (i := x1.toInt) (a := x2.toInt) (b := x3.toInt) (c := x4.toInt) (by decide) (by decide) hG hx hR.1.1 (i32_b _) (i32_b _) (i32_b _) (i32_b _) (fun m hm g1 M1 u8 => ?_) (fun g1 eF eA => ?_) rfl (congrArg some (oI_r x1)) (congrArg some (oI_r x2)) (congrArg some (oI_r x3)) (congrArg some (oI_r x4))
  · have q : RA (pu g.1 0 1 (Int32.ofInt 0), g.2) := ⟨fun j hj => rA_e (fun z => by rw [← cF_p (g := g) (v := Int32.ofInt 0) (by omega)]; exact z) (cF_p (by omega)) rfl (hT.1 j hj), fun j hj => rA_e (fun z => by rw [← cF_p (g := g) (v := Int32.ofInt 0) (by omega)]; exact z) (cF_p (by omega)) rfl (hT.2 j hj)⟩
    refine ⟨fun j hj => ?_, fun j hj => rA_f M1 (h1 m hm j hj).2 (q.2 j hj)⟩
    by_cases e : j = m
    · rw [e]
      exact fun _ => u8
    · exact rA_f M1 ((h1 m hm j hj).1 e) (q.1 j hj)
  · exact ⟨fun j hj => rA_e (fun z => by rw [← eF _ _ (by omega)]; exact z) (eF _ _ (by omega)) (eA _) (hT.1 j hj), fun j hj => rA_e (fun z => by rw [← eF _ _ (by omega)]; exact z) (eF _ _ (by omega)) (eA _) (hT.2 j hj)⟩
theorem psA_gone {g : pH} (hG : g_I eG g) (hx : xL g) (hR : R0 g) (hT : RA g) (x1 : Int32) : t_X 99 120 0 (px_ar 0 [pvR 0, .inl x1]) [] g (fun o => RA o.2) := by
  obtain ⟨-, h2, -⟩ := bA_s
  refine cgo_run (i := x1.toInt) (by decide) (by decide) hG hx hR.1.1 (i32_b _) (fun m hm e1 c0 g1 G1 X1 M1 e0 ej => ?_) (fun c0 => hT) rfl (congrArg some (oI_r x1))
  refine ⟨fun j hj => ?_, fun j hj => rA_f M1 (h2 j hj).2 (hT.2 j hj)⟩
  refine rA_e (fun z => ?_) (cF_M M1 (h2 j hj).1.1) (fA_M M1 (h2 j hj).1.2) (hT.1 j hj)
  by_cases e : j = m
  · rw [e, e0] at z
    omega
  · rw [← ej j hj e]
    exact z
theorem psA_keep {g : pH} (hG : g_I eG g) (hx : xL g) (hR : R0 g) (hT : RA g) : t_X 99 126 0 (px_ar 0 [pvR 0]) [] g (fun o => RA o.2) := by
  obtain ⟨-, -, h3, -⟩ := bA_s
  have a := vck_run (by decide) (by decide) hG hx hR.1.1 (P := fun o => f_M kk_57.2.2.2.1 g o.2 ∧ ∀ j, j < 32 → dC g o.2 78 4 j) (lv := px_ar 0 [pvR 0]) (fun v g1 J1 c1 _ => ⟨J1.2, c1⟩) (d := 99) rfl
  have b := xck_run (by decide) (by decide) hG hx hR.1.1 (P := fun o => ∀ j, j < 32 → d8 g o.2 78 4 j) (lv := px_ar 0 [pvR 0]) (fun v g1 J1 c1 _ => c1) (d := 99) rfl
  have c := ck_run (by decide) (by decide) hG hx hR.1.1 (P := fun o => ∀ j, j < 32 → cF o.2 (78 + 2 * j) 2 = cF g (4 + 2 * j) 2) (lv := px_ar 0 [pvR 0]) (fun g1 _ _ _ _ c1 _ => c1) (d := 99) rfl
  refine t_mono (t_and a (t_and b c)) (fun o ho => ?_)
  obtain ⟨⟨M1, a1⟩, b1, c1⟩ := ho
  refine ⟨fun j hj => rA_f M1 (h3 j hj) (hT.1 j hj), fun j hj z => ?_⟩
  have z4 := hT.1 j hj ((c1 j hj).symm.trans z)
  rw [show cF o.2 (78 + 2 * j) 8 = cF g (4 + 2 * j) 8 from b1 j hj, z4]
  exact alB_e (fun k hk => ((a1 j hj).2 k hk).symm) 8
theorem psA_undo {g : pH} (hG : g_I eG g) (hx : xL g) (hR : R0 g) (hT : RA g) : t_X 99 160 0 (px_ar 0 [pvR 0]) [] g (fun o => RA o.2) := by
  obtain ⟨-, -, -, h4⟩ := bA_s
  by_cases z0 : cF g 0 4 = 0
  · exact vcu_run (by decide) (by decide) hG hx hR.1.1 (P := fun o => RA o.2) (lv := px_ar 0 [pvR 0]) (fun v g1 z _ _ _ => absurd z0 z) (fun _ => hT) (d := 99) rfl
  have a := vcu_run (by decide) (by decide) hG hx hR.1.1 (P := fun o => f_M kk_59.2.2.2.1 g o.2 ∧ ∀ j, j < 32 → dC g o.2 4 78 j) (lv := px_ar 0 [pvR 0]) (fun v g1 _ J1 c1 _ => ⟨J1.2, c1⟩) (fun z => absurd z z0) (d := 99) rfl
  have b := xcu_run (by decide) (by decide) hG hx hR.1.1 (P := fun o => ∀ j, j < 32 → d8 g o.2 4 78 j) (lv := px_ar 0 [pvR 0]) (fun v g1 _ J1 c1 _ => c1) (fun z => absurd z z0) (d := 99) rfl
  have c := cu_run (by decide) (by decide) hG hx hR.1.1 (P := fun o => ∀ j, j < 32 → cF o.2 (4 + 2 * j) 2 = cF g (78 + 2 * j) 2) (lv := px_ar 0 [pvR 0]) (fun _ g1 _ _ _ c1 _ => c1) (fun z => absurd z z0) (d := 99) rfl
  refine t_mono (t_and a (t_and b c)) (fun o ho => ?_)
  obtain ⟨⟨M1, a1⟩, b1, c1⟩ := ho
  refine ⟨fun j hj z => ?_, fun j hj => rA_f M1 (h4 j hj) (hT.2 j hj)⟩
  have z4 := hT.2 j hj ((c1 j hj).symm.trans z)
  rw [show cF o.2 (4 + 2 * j) 8 = cF g (78 + 2 * j) 8 from b1 j hj, z4]
  exact alB_e (fun k hk => ((a1 j hj).2 k hk).symm) 8
theorem p30_feed {g : pH} (hG : g_I eG g) (hx : xL g) (hR : R30 g) (x1 x2 x3 x4 x5 : Int32) : pr_ R30 119 189 [.inl x1, .inl x2, .inl x3, .inl x4, .inl x5] 0 true g := by
  have h := pr_an2 (q := true) (q' := false) (p17_feed hG hx hR.1 x1 x2 x3 x4 x5) (pwA_feed hG hx hR.1.1.1 hR.2 x1 x2 x3 x4 x5)
  exact h
theorem me9_61 : kk_3.2.2.2.1 &&& mA9 = 0 := by decide +kernel
theorem p30_slide {g : pH} (hG : g_I eG g) (hx : xL g) (hR : R30 g) (x1 x2 x3 x4 : Int32) : pr_ R30 147 251 [.inl x1, .inl x2, .inl x3, .inl x4] 0 true g := by
  refine pr_kA (p17_slide hG hx hR.1 x1 x2 x3 x4) (psA_slide hG hx hR.1.1.1 hR.2 x1 x2 x3 x4) ?_ (fun g1 G1 X1 => ?_) me9_61
  · exact kc_go (k := kk_2) in_k2 rfl (by decide) hG hx (vs := [pvR 0, .inl x1, .inl x2, .inl x3, .inl x4]) (xs := [cv (pvR 0), x1.toInt, x2.toInt, x3.toInt, x4.toInt]) ⟨by decide, ⟨⟨pvR 0, rfl, rfl, rfl, ok_0⟩, ⟨.inl x1, rfl, rfl, rfl, ok_full32 _⟩, ⟨.inl x2, rfl, rfl, rfl, ok_full32 _⟩, ⟨.inl x3, rfl, rfl, rfl, ok_full32 _⟩, ⟨.inl x4, rfl, rfl, rfl, ok_full32 _⟩, trivial⟩, trivial, fun c hc => by cases hc⟩ rfl (n := 0) (by decide +kernel) (fun v1 g1 c1 G1 X1 M1 => ⟨G1, X1⟩)
  · exact kc_go (k := kk_3) in_k3 rfl (by decide) G1 X1 (vs := [pvR 196, .inl x1, .inl x2, .inl x3, .inl x4]) (xs := [cv (pvR 196), x1.toInt, x2.toInt, x3.toInt, x4.toInt]) ⟨by decide, ⟨⟨pvR 196, rfl, rfl, rfl, ok_this⟩, ⟨.inl x1, rfl, rfl, rfl, ok_full32 _⟩, ⟨.inl x2, rfl, rfl, rfl, ok_full32 _⟩, ⟨.inl x3, rfl, rfl, rfl, ok_full32 _⟩, ⟨.inl x4, rfl, rfl, rfl, ok_full32 _⟩, trivial⟩, trivial, fun c hc => by cases hc⟩ rfl (n := 0) (by decide +kernel) (fun v2 g2 c2 G2 X2 M2 => M2)
theorem p30_put {g : pH} (hG : g_I eG g) (hx : xL g) (hR : R30 g) (x1 x2 : Int32) : pr_ R30 139 231 [.inl x1, .inl x2] 0 true g := by
  have h := pr_an2 (q := true) (q' := false) (p17_put hG hx hR.1 x1 x2) (pwA_put hG hx hR.1.1.1 hR.2 x1 x2)
  exact h
theorem p30_day {g : pH} (hG : g_I eG g) (hx : xL g) (hR : R30 g) (x1 x2 : Int32) : pr_ R30 116 183 [.inl x1, .inl x2] 0 true g := by
  have h := pr_an2 (q := true) (q' := false) (p17_day hG hx hR.1 x1 x2) (pwA_day hG hx hR.1.1.1 hR.2 x1 x2)
  exact h
theorem me9_62 : kk_9.2.2.2.1 &&& mA9 = 0 := by decide +kernel
theorem p30_gone {g : pH} (hG : g_I eG g) (hx : xL g) (hR : R30 g) (x1 : Int32) : pr_ R30 120 194 [.inl x1] 0 true g := by
  refine pr_kA (p17_gone hG hx hR.1 x1) (psA_gone hG hx hR.1.1.1 hR.2 x1) ?_ (fun g1 G1 X1 => ?_) me9_62
  · exact kc_go (k := kk_8) in_k8 rfl (by decide) hG hx (vs := [pvR 0, .inl x1]) (xs := [cv (pvR 0), x1.toInt]) ⟨by decide, ⟨⟨pvR 0, rfl, rfl, rfl, ok_0⟩, ⟨.inl x1, rfl, rfl, rfl, ok_full32 _⟩, trivial⟩, trivial, fun c hc => by cases hc⟩ rfl (n := 0) (by decide +kernel) (fun v1 g1 c1 G1 X1 M1 => ⟨G1, X1⟩)
  · exact kc_go (k := kk_9) in_k9 rfl (by decide) G1 X1 (vs := [pvR 196, .inl x1]) (xs := [cv (pvR 196), x1.toInt]) ⟨by decide, ⟨⟨pvR 196, rfl, rfl, rfl, ok_this⟩, ⟨.inl x1, rfl, rfl, rfl, ok_full32 _⟩, trivial⟩, trivial, fun c hc => by cases hc⟩ rfl (n := 0) (by decide +kernel) (fun v2 g2 c2 G2 X2 M2 => M2)
theorem p30_looker {g : pH} (hG : g_I eG g) (hx : xL g) (hR : R30 g) (x1 x2 x3 : Int32) : pr_ R30 134 221 [.inl x1, .inl x2, .inl x3] 0 false g := by
  have h := pr_an2 (q := false) (q' := false) (p17_looker hG hx hR.1 x1 x2 x3) (pwA_looker hG hx hR.1.1.1 hR.2 x1 x2 x3)
  exact h
theorem p30_lamps {g : pH} (hG : g_I eG g) (hx : xL g) (hR : R30 g) (x1 : Int32) : pr_ R30 128 211 [.inl x1] 0 false g := by
  have h := pr_an2 (q := false) (q' := false) (p17_lamps hG hx hR.1 x1) (pwA_lamps hG hx hR.1.1.1 hR.2 x1)
  exact h
theorem p30_tray {g : pH} (hG : g_I eG g) (hx : xL g) (hR : R30 g) (x1 : Int32) : pr_ R30 157 264 [.inl x1] 0 false g := by
  have h := pr_an2 (q := false) (q' := false) (p17_tray hG hx hR.1 x1) (pwA_tray hG hx hR.1.1.1 hR.2 x1)
  exact h
theorem p30_law {g : pH} (hG : g_I eG g) (hx : xL g) (hR : R30 g) (x1 : Int32) : pr_ R30 129 213 [.inl x1] 0 false g := by
  have h := pr_an2 (q := false) (q' := false) (p17_law hG hx hR.1 x1) (pwA_law hG hx hR.1.1.1 hR.2 x1)
  exact h
theorem p30_ways {g : pH} (hG : g_I eG g) (hx : xL g) (hR : R30 g) (x1 x2 x3 : Int32) : pr_ R30 164 273 [.inl x1, .inl x2, .inl x3] 0 false g := by
  have h := pr_an2 (q := false) (q' := false) (p17_ways hG hx hR.1 x1 x2 x3) (pwA_ways hG hx hR.1.1.1 hR.2 x1 x2 x3)
  exact h
theorem p30_shown {g : pH} (hG : g_I eG g) (hx : xL g) (hR : R30 g) (x1 x2 x3 : Int32) : pr_ R30 146 247 [.inl x1, .inl x2, .inl x3] 0 false g := by
  have h := pr_an2 (q := false) (q' := false) (p17_shown hG hx hR.1 x1 x2 x3) (pwA_shown hG hx hR.1.1.1 hR.2 x1 x2 x3)
  exact h
theorem p30_slideIs {g : pH} (hG : g_I eG g) (hx : xL g) (hR : R30 g) (x1 x2 : Int32) : pr_ R30 148 252 [.inl x1, .inl x2] 0 false g := by
  have h := pr_an2 (q := false) (q' := false) (p17_slideIs hG hx hR.1 x1 x2) (pwA_slideIs hG hx hR.1.1.1 hR.2 x1 x2)
  exact h
theorem p30_inTray {g : pH} (hG : g_I eG g) (hx : xL g) (hR : R30 g) (x1 : Int32) : pr_ R30 122 200 [.inl x1] 0 false g := by
  have h := pr_an2 (q := false) (q' := false) (p17_inTray hG hx hR.1 x1) (pwA_inTray hG hx hR.1.1.1 hR.2 x1)
  exact h
theorem p30_evening {g : pH} (hG : g_I eG g) (hx : xL g) (hR : R30 g) : pr_ R30 118 187 [] 0 false g := by
  have h := pr_an2 (q := false) (q' := false) (p17_evening hG hx hR.1) (pwA_evening hG hx hR.1.1.1 hR.2)
  exact h
theorem p30_tried {g : pH} (hG : g_I eG g) (hx : xL g) (hR : R30 g) (x1 : Int32) : pr_ R30 158 265 [.inl x1] 0 false g := by
  have h := pr_an2 (q := false) (q' := false) (p17_tried hG hx hR.1 x1) (pwA_tried hG hx hR.1.1.1 hR.2 x1)
  exact h
theorem p30_odds {g : pH} (hG : g_I eG g) (hx : xL g) (hR : R30 g) (x1 x2 x3 x4 : Int32) : pr_ R30 137 228 [.inl x1, .inl x2, .inl x3, .inl x4] 0 false g := by
  have h := pr_an2 (q := false) (q' := false) (p17_odds hG hx hR.1 x1 x2 x3 x4) (pwA_odds hG hx hR.1.1.1 hR.2 x1 x2 x3 x4)
  exact h
theorem p30_toTurn {g : pH} (hG : g_I eG g) (hx : xL g) (hR : R30 g) (x1 x2 : Int32) : pr_ R30 156 263 [.inl x1, .inl x2] 1 false g := by
  have h := pr_an2 (q := false) (q' := false) (p17_toTurn hG hx hR.1 x1 x2) (pwA_toTurn hG hx hR.1.1.1 hR.2 x1 x2)
  exact h
theorem p30_leave {g : pH} (hG : g_I eG g) (hx : xL g) (hR : R30 g) (x1 x2 : Int32) : pr_ R30 130 217 [.inl x1, .inl x2] 1 false g := by
  have h := pr_an2 (q := false) (q' := false) (p17_leave hG hx hR.1 x1 x2) (pwA_leave hG hx hR.1.1.1 hR.2 x1 x2)
  exact h
theorem p30_sure {g : pH} (hG : g_I eG g) (hx : xL g) (hR : R30 g) (x1 x2 : Int32) : pr_ R30 150 258 [.inl x1, .inl x2] 0 true g := by
  have h := pr_an2 (q := true) (q' := false) (p17_sure hG hx hR.1 x1 x2) (pwA_sure hG hx hR.1.1.1 hR.2 x1 x2)
  exact h
theorem p30_dots {g : pH} (hG : g_I eG g) (hx : xL g) (hR : R30 g) (x1 x2 : Int32) : pr_ R30 117 184 [.inl x1, .inl x2] 0 false g := by
  have h := pr_an2 (q := false) (q' := false) (p17_dots hG hx hR.1 x1 x2) (pwA_dots hG hx hR.1.1.1 hR.2 x1 x2)
  exact h
theorem p30_lightBox {g : pH} (hG : g_I eG g) (hx : xL g) (hR : R30 g) (x1 x2 : Int32) : pr_ R30 132 219 [.inl x1, .inl x2] 1 false g := by
  have h := pr_an2 (q := false) (q' := false) (p17_lightBox hG hx hR.1 x1 x2) (pwA_lightBox hG hx hR.1.1.1 hR.2 x1 x2)
  exact h
theorem p30_clue {g : pH} (hG : g_I eG g) (hx : xL g) (hR : R30 g) (x1 x2 : Int32) : pr_ R30 111 177 [.inl x1, .inl x2] 0 false g := by
  have h := pr_an2 (q := false) (q' := false) (p17_clue hG hx hR.1 x1 x2) (pwA_clue hG hx hR.1.1.1 hR.2 x1 x2)
  exact h
theorem p30_spilt {g : pH} (hG : g_I eG g) (hx : xL g) (hR : R30 g) (x1 x2 : Int32) : pr_ R30 149 254 [.inl x1, .inl x2] 1 false g := by
  have h := pr_an2 (q := false) (q' := false) (p17_spilt hG hx hR.1 x1 x2) (pwA_spilt hG hx hR.1.1.1 hR.2 x1 x2)
  exact h
theorem p30_says {g : pH} (hG : g_I eG g) (hx : xL g) (hR : R30 g) (x1 x2 x3 x4 : Int32) : pr_ R30 142 243 [.inl x1, .inl x2, .inl x3, .inl x4] 1 false g := by
  have h := pr_an2 (q := false) (q' := false) (p17_says hG hx hR.1 x1 x2 x3 x4) (pwA_says hG hx hR.1.1.1 hR.2 x1 x2 x3 x4)
  exact h
theorem p30_shadow {g : pH} (hG : g_I eG g) (hx : xL g) (hR : R30 g) (x1 x2 x3 : Int32) : pr_ R30 145 246 [.inl x1, .inl x2, .inl x3] 0 false g := by
  have h := pr_an2 (q := false) (q' := false) (p17_shadow hG hx hR.1 x1 x2 x3) (pwA_shadow hG hx hR.1.1.1 hR.2 x1 x2 x3)
  exact h
theorem p30_link {g : pH} (hG : g_I eG g) (hx : xL g) (hR : R30 g) (x1 x2 : Int32) : pr_ R30 133 220 [.inl x1, .inl x2] 0 false g := by
  have h := pr_an2 (q := false) (q' := false) (p17_link hG hx hR.1 x1 x2) (pwA_link hG hx hR.1.1.1 hR.2 x1 x2)
  exact h
theorem p30_leftOut {g : pH} (hG : g_I eG g) (hx : xL g) (hR : R30 g) (x1 x2 : Int32) : pr_ R30 131 218 [.inl x1, .inl x2] 0 false g := by
  have h := pr_an2 (q := false) (q' := false) (p17_leftOut hG hx hR.1 x1 x2) (pwA_leftOut hG hx hR.1.1.1 hR.2 x1 x2)
  exact h
theorem p30_lamp {g : pH} (hG : g_I eG g) (hx : xL g) (hR : R30 g) (x1 x2 x3 : Int32) : pr_ R30 127 210 [.inl x1, .inl x2, .inl x3] 1 false g := by
  have h := pr_an2 (q := false) (q' := false) (p17_lamp hG hx hR.1 x1 x2 x3) (pwA_lamp hG hx hR.1.1.1 hR.2 x1 x2 x3)
  exact h
theorem p30_hand {g : pH} (hG : g_I eG g) (hx : xL g) (hR : R30 g) (x1 : Int32) : pr_ R30 121 195 [.inl x1] 1 false g := by
  have h := pr_an2 (q := false) (q' := false) (p17_hand hG hx hR.1 x1) (pwA_hand hG hx hR.1.1.1 hR.2 x1)
  exact h
theorem p30_putIn {g : pH} (hG : g_I eG g) (hx : xL g) (hR : R30 g) : pr_ R30 140 232 [] 0 false g := by
  have h := pr_an2 (q := false) (q' := false) (p17_putIn hG hx hR.1) (pwA_putIn hG hx hR.1.1.1 hR.2)
  exact h
theorem p30_seed {g : pH} (hG : g_I eG g) (hx : xL g) (hR : R30 g) (x1 : Int32) : pr_ R30 144 245 [.inl x1] 0 false g := by
  have h := pr_an2 (q := false) (q' := false) (p17_seed hG hx hR.1 x1) (pwA_seed hG hx hR.1.1.1 hR.2 x1)
  exact h
theorem me9_63 : kk_58.2.2.2.1 &&& mA9 = 0 := by decide +kernel
theorem p30_keep {g : pH} (hG : g_I eG g) (hx : xL g) (hR : R30 g) : pr_ R30 126 209 [] 0 true g := by
  refine pr_kA (p17_keep hG hx hR.1) (psA_keep hG hx hR.1.1.1 hR.2) ?_ (fun g1 G1 X1 => ?_) me9_63
  · exact kc_go (k := kk_57) in_k57 rfl (by decide) hG hx (vs := [pvR 0]) (xs := [cv (pvR 0)]) ⟨by decide, ⟨⟨pvR 0, rfl, rfl, rfl, ok_0⟩, trivial⟩, trivial, fun c hc => by cases hc⟩ rfl (n := 0) (by decide +kernel) (fun v1 g1 c1 G1 X1 M1 => ⟨G1, X1⟩)
  · exact kc_go (k := kk_58) in_k58 rfl (by decide) G1 X1 (vs := [pvR 196]) (xs := [cv (pvR 196)]) ⟨by decide, ⟨⟨pvR 196, rfl, rfl, rfl, ok_this⟩, trivial⟩, trivial, fun c hc => by cases hc⟩ rfl (n := 0) (by decide +kernel) (fun v2 g2 c2 G2 X2 M2 => M2)
theorem me9_64 : kk_60.2.2.2.1 &&& mA9 = 0 := by decide +kernel
theorem p30_undo {g : pH} (hG : g_I eG g) (hx : xL g) (hR : R30 g) : pr_ R30 160 270 [] 0 true g := by
  refine pr_kA (p17_undo hG hx hR.1) (psA_undo hG hx hR.1.1.1 hR.2) ?_ (fun g1 G1 X1 => ?_) me9_64
  · exact kc_go (k := kk_59) in_k59 rfl (by decide) hG hx (vs := [pvR 0]) (xs := [cv (pvR 0)]) ⟨by decide, ⟨⟨pvR 0, rfl, rfl, rfl, ok_0⟩, trivial⟩, trivial, fun c hc => by cases hc⟩ rfl (n := 0) (by decide +kernel) (fun v1 g1 c1 G1 X1 M1 => ⟨G1, X1⟩)
  · exact kc_go (k := kk_60) in_k60 rfl (by decide) G1 X1 (vs := [pvR 196]) (xs := [cv (pvR 196)]) ⟨by decide, ⟨⟨pvR 196, rfl, rfl, rfl, ok_this⟩, trivial⟩, trivial, fun c hc => by cases hc⟩ rfl (n := 0) (by decide +kernel) (fun v2 g2 c2 G2 X2 M2 => M2)
theorem p30_check {g : pH} (hG : g_I eG g) (hx : xL g) (hR : R30 g) (x1 x2 : Int32) : pr_ R30 110 174 [.inl x1, .inl x2] 0 false g := by
  have h := pr_an2 (q := false) (q' := false) (p17_check hG hx hR.1 x1 x2) (pwA_check hG hx hR.1.1.1 hR.2 x1 x2)
  exact h
theorem p30_count {g : pH} (hG : g_I eG g) (hx : xL g) (hR : R30 g) (x1 : Int32) : pr_ R30 115 182 [.inl x1] 0 false g := by
  have h := pr_an2 (q := false) (q' := false) (p17_count hG hx hR.1 x1) (pwA_count hG hx hR.1.1.1 hR.2 x1)
  exact h
