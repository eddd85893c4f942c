/-! reference: the law's text: a clause's pieces (printed by wip/e2/v8.py) -/
theorem jic_0 : xe_look (xc 202) 0 = some (.iload_n 0, 1, 0, 0, 0) := by decide +kernel
theorem jic_1 : xe_look (xc 202) 1 = some (.bipush 119, 2, 0, 0, 0) := by decide +kernel
theorem jic_3 : xe_look (xc 202) 3 = some (.if_icmp .eq 45, 3, 0, 0, 0) := by decide +kernel
theorem jic_6 : xe_look (xc 202) 6 = some (.iload_n 0, 1, 0, 0, 0) := by decide +kernel
theorem jic_7 : xe_look (xc 202) 7 = some (.bipush 110, 2, 0, 0, 0) := by decide +kernel
theorem jic_9 : xe_look (xc 202) 9 = some (.if_icmp .eq 39, 3, 0, 0, 0) := by decide +kernel
theorem jic_12 : xe_look (xc 202) 12 = some (.iload_n 0, 1, 0, 0, 0) := by decide +kernel
theorem jic_13 : xe_look (xc 202) 13 = some (.bipush 115, 2, 0, 0, 0) := by decide +kernel
theorem jic_15 : xe_look (xc 202) 15 = some (.if_icmp .eq 33, 3, 0, 0, 0) := by decide +kernel
theorem jic_18 : xe_look (xc 202) 18 = some (.iload_n 0, 1, 0, 0, 0) := by decide +kernel
theorem jic_19 : xe_look (xc 202) 19 = some (.bipush 116, 2, 0, 0, 0) := by decide +kernel
theorem jic_21 : xe_look (xc 202) 21 = some (.if_icmp .eq 27, 3, 0, 0, 0) := by decide +kernel
theorem jic_24 : xe_look (xc 202) 24 = some (.iload_n 0, 1, 0, 0, 0) := by decide +kernel
theorem jic_25 : xe_look (xc 202) 25 = some (.bipush 106, 2, 0, 0, 0) := by decide +kernel
theorem jic_27 : xe_look (xc 202) 27 = some (.if_icmp .eq 21, 3, 0, 0, 0) := by decide +kernel
theorem jic_30 : xe_look (xc 202) 30 = some (.iload_n 0, 1, 0, 0, 0) := by decide +kernel
theorem jic_31 : xe_look (xc 202) 31 = some (.bipush 120, 2, 0, 0, 0) := by decide +kernel
theorem jic_33 : xe_look (xc 202) 33 = some (.if_icmp .eq 15, 3, 0, 0, 0) := by decide +kernel
theorem jic_36 : xe_look (xc 202) 36 = some (.iload_n 0, 1, 0, 0, 0) := by decide +kernel
theorem jic_37 : xe_look (xc 202) 37 = some (.bipush 112, 2, 0, 0, 0) := by decide +kernel
theorem jic_39 : xe_look (xc 202) 39 = some (.if_icmp .eq 9, 3, 0, 0, 0) := by decide +kernel
theorem jic_42 : xe_look (xc 202) 42 = some (.iload_n 0, 1, 0, 0, 0) := by decide +kernel
theorem jic_43 : xe_look (xc 202) 43 = some (.bipush 98, 2, 0, 0, 0) := by decide +kernel
theorem jic_45 : xe_look (xc 202) 45 = some (.if_icmp .ne 7, 3, 0, 0, 0) := by decide +kernel
theorem jic_48 : xe_look (xc 202) 48 = some (.iconst 1, 1, 0, 0, 0) := by decide +kernel
theorem jic_49 : xe_look (xc 202) 49 = some (.goto 4, 3, 0, 0, 0) := by decide +kernel
theorem jic_52 : xe_look (xc 202) 52 = some (.iconst 0, 1, 0, 0, 0) := by decide +kernel
theorem jic_53 : xe_look (xc 202) 53 = some (.ireturn, 1, 0, 0, 0) := by decide +kernel
theorem jrc_0 : xe_look (xc 235) 0 = some (.aload_n 0, 1, 0, 0, 0) := by decide +kernel
theorem jrc_1 : xe_look (xc 235) 1 = some (.invokevirtual 252, 3, 0, 198, 1137) := by decide +kernel
theorem jrc_4 : xe_look (xc 235) 4 = some (.bipush 40, 2, 0, 0, 0) := by decide +kernel
theorem jrc_6 : xe_look (xc 235) 6 = some (.if_icmp .eq 13, 3, 0, 0, 0) := by decide +kernel
theorem jrc_9 : xe_look (xc 235) 9 = some (.aload_n 0, 1, 0, 0, 0) := by decide +kernel
theorem jrc_10 : xe_look (xc 235) 10 = some (.iconst 1, 1, 0, 0, 0) := by decide +kernel
theorem jrc_11 : xe_look (xc 235) 11 = some (.aload_n 0, 1, 0, 0, 0) := by decide +kernel
theorem jrc_12 : xe_look (xc 235) 12 = some (.getfield 242, 3, 12, 18, 1135) := by decide +kernel
theorem jrc_15 : xe_look (xc 235) 15 = some (.invokevirtual 256, 3, 0, 274, 1138) := by decide +kernel
theorem jrc_18 : xe_look (xc 235) 18 = some (.ireturn, 1, 0, 0, 0) := by decide +kernel
theorem jrc_19 : xe_look (xc 235) 19 = some (.aload_n 0, 1, 0, 0, 0) := by decide +kernel
theorem jrc_20 : xe_look (xc 235) 20 = some (.iconst 0, 1, 0, 0, 0) := by decide +kernel
theorem jrc_21 : xe_look (xc 235) 21 = some (.putfield 300, 3, 12, 31, 1170) := by decide +kernel
theorem jrc_24 : xe_look (xc 235) 24 = some (.aload_n 0, 1, 0, 0, 0) := by decide +kernel
theorem jrc_25 : xe_look (xc 235) 25 = some (.iconst 0, 1, 0, 0, 0) := by decide +kernel
theorem jrc_26 : xe_look (xc 235) 26 = some (.putfield 303, 3, 12, 33, 1146) := by decide +kernel
theorem jrc_29 : xe_look (xc 235) 29 = some (.aload_n 0, 1, 0, 0, 0) := by decide +kernel
theorem jrc_30 : xe_look (xc 235) 30 = some (.bipush 13, 2, 0, 0, 0) := by decide +kernel
theorem jrc_32 : xe_look (xc 235) 32 = some (.invokevirtual 313, 3, 0, 229, 1258) := by decide +kernel
theorem jrc_35 : xe_look (xc 235) 35 = some (.ifCond .ne 5, 3, 0, 0, 0) := by decide +kernel
theorem jtk_0 : xe_look (xc 260) 0 = some (.aload_n 0, 1, 0, 0, 0) := by decide +kernel
theorem jtk_1 : xe_look (xc 260) 1 = some (.invokevirtual 252, 3, 0, 198, 1137) := by decide +kernel
theorem jtk_4 : xe_look (xc 260) 4 = some (.iload_n 1, 1, 0, 0, 0) := by decide +kernel
theorem jtk_5 : xe_look (xc 260) 5 = some (.if_icmp .eq 13, 3, 0, 0, 0) := by decide +kernel
theorem jtk_8 : xe_look (xc 260) 8 = some (.aload_n 0, 1, 0, 0, 0) := by decide +kernel
theorem jtk_9 : xe_look (xc 260) 9 = some (.iconst 1, 1, 0, 0, 0) := by decide +kernel
theorem jtk_10 : xe_look (xc 260) 10 = some (.aload_n 0, 1, 0, 0, 0) := by decide +kernel
theorem jtk_11 : xe_look (xc 260) 11 = some (.getfield 242, 3, 12, 18, 1135) := by decide +kernel
theorem jtk_14 : xe_look (xc 260) 14 = some (.invokevirtual 256, 3, 0, 274, 1138) := by decide +kernel
theorem jtk_17 : xe_look (xc 260) 17 = some (.ireturn, 1, 0, 0, 0) := by decide +kernel
theorem jtk_18 : xe_look (xc 260) 18 = some (.aload_n 0, 1, 0, 0, 0) := by decide +kernel
theorem jtk_19 : xe_look (xc 260) 19 = some (.aload_n 0, 1, 0, 0, 0) := by decide +kernel
theorem jtk_20 : xe_look (xc 260) 20 = some (.getfield 242, 3, 12, 18, 1135) := by decide +kernel
theorem jtk_23 : xe_look (xc 260) 23 = some (.iconst 1, 1, 0, 0, 0) := by decide +kernel
theorem jtk_24 : xe_look (xc 260) 24 = some (.iadd, 1, 0, 0, 0) := by decide +kernel
theorem jtk_25 : xe_look (xc 260) 25 = some (.putfield 242, 3, 12, 18, 1135) := by decide +kernel
theorem jtk_28 : xe_look (xc 260) 28 = some (.iconst 1, 1, 0, 0, 0) := by decide +kernel
theorem jtk_29 : xe_look (xc 260) 29 = some (.ireturn, 1, 0, 0, 0) := by decide +kernel
def jRC (d : Nat) (Q : Option pv × pH → Prop) (g : pH) : Prop := ∀ lv : List (Nat × pv), px_lg lv 0 = some (pvR 196) → t_X d 235 0 lv [] g Q
theorem jic_run {d : Nat} {g : pH} {c : Int} (hc : -1 ≤ c ∧ c ≤ 255) {P : Option pv × pH → Prop} (h1 : lLe c → P (some (oI 1), g)) (h0 : ¬ lLe c → P (some (oI 0), g)) {lv : List (Nat × pv)} (l0 : px_lg lv 0 = some (oI c)) : t_X d 202 0 lv [] g P := by
  refine t_0 jic_0 rfl (ld_i l0) ?_
  refine t_0 jic_1 rfl (pq_b (by decide)) ?_
  refine tb_eq jic_3 (by decide) ⟨by omega, by omega⟩ ⟨by omega, by omega⟩ (fun c1 => ?_) (fun c1 => ?_)
  · show t_X d 202 48 lv [] g P
    refine t_0 jic_48 rfl rfl ?_
    refine t_1 jic_49 rfl (pb_goto (pc := 49) (by decide)) ?_
    show t_X d 202 53 lv [oI 1] g P
    refine t_5 jic_53 rfl rfl ?_
    exact h1 (by unfold lLe; omega)
  · show t_X d 202 6 lv [] g P
    refine t_0 jic_6 rfl (ld_i l0) ?_
    refine t_0 jic_7 rfl (pq_b (by decide)) ?_
    refine tb_eq jic_9 (by decide) ⟨by omega, by omega⟩ ⟨by omega, by omega⟩ (fun c2 => ?_) (fun c2 => ?_)
    · show t_X d 202 48 lv [] g P
      refine t_0 jic_48 rfl rfl ?_
      refine t_1 jic_49 rfl (pb_goto (pc := 49) (by decide)) ?_
      show t_X d 202 53 lv [oI 1] g P
      refine t_5 jic_53 rfl rfl ?_
      exact h1 (by unfold lLe; omega)
    · show t_X d 202 12 lv [] g P
      refine t_0 jic_12 rfl (ld_i l0) ?_
      refine t_0 jic_13 rfl (pq_b (by decide)) ?_
      refine tb_eq jic_15 (by decide) ⟨by omega, by omega⟩ ⟨by omega, by omega⟩ (fun c3 => ?_) (fun c3 => ?_)
      · show t_X d 202 48 lv [] g P
        refine t_0 jic_48 rfl rfl ?_
        refine t_1 jic_49 rfl (pb_goto (pc := 49) (by decide)) ?_
        show t_X d 202 53 lv [oI 1] g P
        refine t_5 jic_53 rfl rfl ?_
        exact h1 (by unfold lLe; omega)
      · show t_X d 202 18 lv [] g P
        refine t_0 jic_18 rfl (ld_i l0) ?_
        refine t_0 jic_19 rfl (pq_b (by decide)) ?_
        refine tb_eq jic_21 (by decide) ⟨by omega, by omega⟩ ⟨by omega, by omega⟩ (fun c4 => ?_) (fun c4 => ?_)
        · show t_X d 202 48 lv [] g P
          refine t_0 jic_48 rfl rfl ?_
          refine t_1 jic_49 rfl (pb_goto (pc := 49) (by decide)) ?_
          show t_X d 202 53 lv [oI 1] g P
          refine t_5 jic_53 rfl rfl ?_
          exact h1 (by unfold lLe; omega)
        · show t_X d 202 24 lv [] g P
          refine t_0 jic_24 rfl (ld_i l0) ?_
          refine t_0 jic_25 rfl (pq_b (by decide)) ?_
          refine tb_eq jic_27 (by decide) ⟨by omega, by omega⟩ ⟨by omega, by omega⟩ (fun c5 => ?_) (fun c5 => ?_)
          · show t_X d 202 48 lv [] g P
            refine t_0 jic_48 rfl rfl ?_
            refine t_1 jic_49 rfl (pb_goto (pc := 49) (by decide)) ?_
            show t_X d 202 53 lv [oI 1] g P
            refine t_5 jic_53 rfl rfl ?_
            exact h1 (by unfold lLe; omega)
          · show t_X d 202 30 lv [] g P
            refine t_0 jic_30 rfl (ld_i l0) ?_
            refine t_0 jic_31 rfl (pq_b (by decide)) ?_
            refine tb_eq jic_33 (by decide) ⟨by omega, by omega⟩ ⟨by omega, by omega⟩ (fun c6 => ?_) (fun c6 => ?_)
            · show t_X d 202 48 lv [] g P
              refine t_0 jic_48 rfl rfl ?_
              refine t_1 jic_49 rfl (pb_goto (pc := 49) (by decide)) ?_
              show t_X d 202 53 lv [oI 1] g P
              refine t_5 jic_53 rfl rfl ?_
              exact h1 (by unfold lLe; omega)
            · show t_X d 202 36 lv [] g P
              refine t_0 jic_36 rfl (ld_i l0) ?_
              refine t_0 jic_37 rfl (pq_b (by decide)) ?_
              refine tb_eq jic_39 (by decide) ⟨by omega, by omega⟩ ⟨by omega, by omega⟩ (fun c7 => ?_) (fun c7 => ?_)
              · show t_X d 202 48 lv [] g P
                refine t_0 jic_48 rfl rfl ?_
                refine t_1 jic_49 rfl (pb_goto (pc := 49) (by decide)) ?_
                show t_X d 202 53 lv [oI 1] g P
                refine t_5 jic_53 rfl rfl ?_
                exact h1 (by unfold lLe; omega)
              · show t_X d 202 42 lv [] g P
                refine t_0 jic_42 rfl (ld_i l0) ?_
                refine t_0 jic_43 rfl (pq_b (by decide)) ?_
                refine tb_ne jic_45 (by decide) ⟨by omega, by omega⟩ ⟨by omega, by omega⟩ (fun c8 => ?_) (fun c8 => ?_)
                · show t_X d 202 52 lv [] g P
                  refine t_0 jic_52 rfl rfl ?_
                  refine t_5 jic_53 rfl rfl ?_
                  exact h0 (by unfold lLe; omega)
                · show t_X d 202 48 lv [] g P
                  refine t_0 jic_48 rfl rfl ?_
                  refine t_1 jic_49 rfl (pb_goto (pc := 49) (by decide)) ?_
                  show t_X d 202 53 lv [oI 1] g P
                  refine t_5 jic_53 rfl rfl ?_
                  exact h1 (by unfold lLe; omega)
theorem jtk_run {d : Nat} (hd : 1 ≤ d) {g0 g : pH} {B : tC} {n : Int} (hB : jB g0 B n) {p k w op ft u : Int} {sa wa : tC} (hS : jS g0 g p k w op ft u sa wa) (hp : 0 ≤ p ∧ p ≤ n) {c : Int} (hc : 0 ≤ c ∧ c ≤ 255) {P : Option pv × pH → Prop} (h1 : tH B n p = c → ∀ g1 : pH, jS g0 g1 (p + 1) k w op ft u sa wa → P (some (oI 1), g1)) (h0 : tH B n p ≠ c → ∀ g1 : pH, jS g0 g1 p k w op (-1000 - p) u sa wa → P (some (oI 0), g1)) {lv : List (Nat × pv)} (l0 : px_lg lv 0 = some (pvR 196)) (l1 : px_lg lv 1 = some (oI c)) : t_X d 260 0 lv [] g P := by
  have hn0 := hB.2.2.1
  have hn1 := hB.2.2.2
  have hH : ∀ q, 0 ≤ q → -1 ≤ tH B n q ∧ tH B n q ≤ 255 := fun q hq => tH_b (jp_b hB.2.1) (by omega) hq
  refine t_0 jtk_0 rfl (ld_a l0) ?_
  refine t_3 jtk_1 rfl (ar := ([pvR 196], [])) (pcal_w (as := []) rfl rfl rfl jeo_196) ⟨by omega, Nat.le_of_ble_eq_true rfl, Nat.le_of_ble_eq_true rfl, rfl⟩ ?_
  refine jh_run hB hS (by omega) ?_ rfl
  have b1 := hH p (by omega)
  have z1 := tH_n (B := B) (n := n) (p := p)
  show t_X d 260 4 lv [oI (tH B n p)] g P
  refine t_0 jtk_4 rfl (ld_i l1) ?_
  refine tb_eq jtk_5 (by decide) ⟨by omega, by omega⟩ ⟨by omega, by omega⟩ (fun c2 => ?_) (fun c2 => ?_)
  · show t_X d 260 18 lv [] g P
    refine t_0 jtk_18 rfl (ld_a l0) ?_
    refine t_0 jtk_19 rfl (ld_a l0) ?_
    refine t_0 jtk_20 rfl (pq_cv jeo_196 rfl (show cF g 196 18 = p from S_f hS 0 (Nat.le_of_ble_eq_true rfl))) ?_
    show t_X d 260 23 lv [oI (p), pvR 196] g P
    refine t_0 jtk_23 rfl rfl ?_
    refine t_0 jtk_24 rfl pq_add ?_
    refine ts_f (n := 0) rfl rfl (by decide) jtk_25 rfl jeo_196 hS wt_jW_196_18 jgy_196_18 (by decide) ⟨by omega, by omega⟩ (fun g3 hS3 => ?_)
    replace hS3 : jS g0 g3 (p + 1) k w op ft u sa wa := hS3
    show t_X d 260 28 lv [] g3 P
    refine t_0 jtk_28 rfl rfl ?_
    refine t_5 jtk_29 rfl rfl ?_
    exact h1 (by omega) _ hS3
  · show t_X d 260 8 lv [] g P
    refine t_0 jtk_8 rfl (ld_a l0) ?_
    refine t_0 jtk_9 rfl rfl ?_
    refine t_0 jtk_10 rfl (ld_a l0) ?_
    refine t_0 jtk_11 rfl (pq_cv jeo_196 rfl (show cF g 196 18 = p from S_f hS 0 (Nat.le_of_ble_eq_true rfl))) ?_
    show t_X d 260 14 lv [oI (p), oI 1, pvR 196] g P
    refine t_3 jtk_14 rfl (ar := ([pvR 196, oI 1, oI (p)], [])) (pcal_w (as := [oI (p), oI 1]) rfl rfl rfl jeo_196) ⟨by omega, Nat.le_of_ble_eq_true rfl, Nat.le_of_ble_eq_true rfl, rfl⟩ ?_
    refine jw_run hB hS ⟨by omega, by omega⟩ ⟨by omega, by omega⟩ (fun g4 hS4 => ?_) rfl rfl rfl
    replace hS4 : jS g0 g4 p k w op (-1000 * 1 - p) u sa wa := hS4
    show t_X d 260 17 lv [oI 0] g4 P
    refine t_5 jtk_17 rfl rfl ?_
    exact h0 (by omega) _ (by rw [show -1000 - p = -1000 * 1 - p by omega]; exact hS4)
theorem rc_n {d : Nat} (hd : 2 ≤ d) {g0 : pH} {B : tC} {n : Int} (hB : jB g0 B n) {p k : Int} {o v : tC} (hLP : lP n p k) {w op ft u : Int} {sa wa : tC} {g : pH} (hS : jS g0 g p k w op ft u sa wa) (hh : tH B n p ≠ 40) {Q : Option pv × pH → Prop} (hQ : jOK g0 Q (-1000 - p)) : jRC d Q g := by
  intro lv l0
  have hLP9 := hLP
  unfold lP at hLP9
  have hn0 := hB.2.2.1
  have hn1 := hB.2.2.2
  have hH : ∀ q, 0 ≤ q → -1 ≤ tH B n q ∧ tH B n q ≤ 255 := fun q hq => tH_b (jp_b hB.2.1) (by omega) hq
  refine t_0 jrc_0 rfl (ld_a l0) ?_
  refine t_3 jrc_1 rfl (ar := ([pvR 196], [])) (pcal_w (as := []) rfl rfl rfl jeo_196) ⟨by omega, Nat.le_of_ble_eq_true rfl, Nat.le_of_ble_eq_true rfl, rfl⟩ ?_
  refine jh_run hB hS (by omega) ?_ rfl
  have b1 := hH p (by omega)
  have z1 := tH_n (B := B) (n := n) (p := p)
  show t_X d 235 4 lv [oI (tH B n p)] g Q
  refine t_0 jrc_4 rfl (pq_b (by decide)) ?_
  refine tb_eq jrc_6 (by decide) ⟨by omega, by omega⟩ ⟨by omega, by omega⟩ (fun c2 => absurd c2 (by omega)) (fun c2 => ?_)
  show t_X d 235 9 lv [] g Q
  refine t_0 jrc_9 rfl (ld_a l0) ?_
  refine t_0 jrc_10 rfl rfl ?_
  refine t_0 jrc_11 rfl (ld_a l0) ?_
  refine t_0 jrc_12 rfl (pq_cv jeo_196 rfl (show cF g 196 18 = p from S_f hS 0 (Nat.le_of_ble_eq_true rfl))) ?_
  show t_X d 235 15 lv [oI (p), oI 1, pvR 196] g Q
  refine t_3 jrc_15 rfl (ar := ([pvR 196, oI 1, oI (p)], [])) (pcal_w (as := [oI (p), oI 1]) rfl rfl rfl jeo_196) ⟨by omega, Nat.le_of_ble_eq_true rfl, Nat.le_of_ble_eq_true rfl, rfl⟩ ?_
  refine jw_run hB hS ⟨by omega, by omega⟩ ⟨by omega, by omega⟩ (fun g3 hS3 => ?_) rfl rfl rfl
  replace hS3 : jS g0 g3 p k w op (-1000 * 1 - p) u sa wa := hS3
  show t_X d 235 18 lv [oI 0] g3 Q
  refine t_5 jrc_18 rfl rfl ?_
  exact hQ _ ⟨_, _, _, _, _, _, _, (show jS g0 g3 _ _ _ _ (-1000 - p) _ _ _ by rw [show -1000 - p = -1000 * 1 - p by omega]; exact hS3)⟩
theorem rc_y {d : Nat} (hd : 2 ≤ d) {g0 : pH} {B : tC} {n : Int} (hB : jB g0 B n) {p k : Int} {o v : tC} (hLP : lP n p k) {w op ft u : Int} {sa wa : tC} {g : pH} (hS : jS g0 g p k w op ft u sa wa) (hC : jC k o v sa) (hh : tH B n p = 40) {Q : Option pv × pH → Prop} (hA : ∀ g1, jSt g0 g1 (p + 1) k o v 1 [(13, 0)] → jA d Q g1) : jRC d Q g := by
  intro lv l0
  have hLP9 := hLP
  unfold lP at hLP9
  have hn0 := hB.2.2.1
  have hn1 := hB.2.2.2
  have hH : ∀ q, 0 ≤ q → -1 ≤ tH B n q ∧ tH B n q ≤ 255 := fun q hq => tH_b (jp_b hB.2.1) (by omega) hq
  refine t_0 jrc_0 rfl (ld_a l0) ?_
  refine t_3 jrc_1 rfl (ar := ([pvR 196], [])) (pcal_w (as := []) rfl rfl rfl jeo_196) ⟨by omega, Nat.le_of_ble_eq_true rfl, Nat.le_of_ble_eq_true rfl, rfl⟩ ?_
  refine jh_run hB hS (by omega) ?_ rfl
  have b1 := hH p (by omega)
  have z1 := tH_n (B := B) (n := n) (p := p)
  show t_X d 235 4 lv [oI (tH B n p)] g Q
  refine t_0 jrc_4 rfl (pq_b (by decide)) ?_
  refine tb_eq jrc_6 (by decide) ⟨by omega, by omega⟩ ⟨by omega, by omega⟩ (fun c2 => ?_) (fun c2 => absurd c2 (by omega))
  show t_X d 235 19 lv [] g Q
  refine t_0 jrc_19 rfl (ld_a l0) ?_
  refine t_0 jrc_20 rfl rfl ?_
  refine ts_f (n := 3) rfl rfl (by decide) jrc_21 rfl jeo_196 hS wt_jW_196_31 jgy_196_31 (by decide) ⟨by omega, by omega⟩ (fun g3 hS3 => ?_)
  replace hS3 : jS g0 g3 p k w 0 ft u sa wa := hS3
  show t_X d 235 24 lv [] g3 Q
  refine t_0 jrc_24 rfl (ld_a l0) ?_
  refine t_0 jrc_25 rfl rfl ?_
  refine ts_f (n := 2) rfl rfl (by decide) jrc_26 rfl jeo_196 hS3 wt_jW_196_33 jgy_196_33 (by decide) ⟨by omega, by omega⟩ (fun g4 hS4 => ?_)
  replace hS4 : jS g0 g4 p k 0 0 ft u sa wa := hS4
  show t_X d 235 29 lv [] g4 Q
  refine t_0 jrc_29 rfl (ld_a l0) ?_
  refine t_0 jrc_30 rfl (pq_b (by decide)) ?_
  refine t_3 jrc_32 rfl (ar := ([pvR 196, oI 13], [])) (pcal_w (as := [oI 13]) rfl rfl rfl jeo_196) ⟨by omega, Nat.le_of_ble_eq_true rfl, Nat.le_of_ble_eq_true rfl, rfl⟩ ?_
  refine jop_run (by omega) hB hS4 ⟨by omega, by omega⟩ (a := 13) (by omega) (by omega) (by omega) (fun t5 g5 hS5 => ?_) (fun t5 => absurd t5 (by omega)) rfl rfl
  replace hS5 : jS g0 g5 (p + 1) k (0 + 1) (0 + 1) ft u sa (updI wa 0 (1048576 * 13)) := hS5
  show t_X d 235 35 lv [oI 1] g5 Q
  refine tz_ne jrc_35 (by decide) ⟨by omega, by omega⟩ (fun c6 => ?_) (fun c6 => absurd c6 (by omega))
  show t_X d 235 40 lv [] g5 Q
  exact hA _ ⟨_, _, sa, _, (show jS g0 g5 (p + 1) k (([(13, 0)] : List (Int × Int)).length : Int) 1 _ _ sa _ from hS5), hC, (by have h7 := jK_p (l := []) (wa := wa) (w := 0) (a := 13) (b := 0) rfl trivial (by omega) (by omega); rw [Int.add_zero] at h7; exact h7), (by show ((1 : Nat) : Int) ≤ _; omega)⟩ _ l0
theorem cd_f {d : Nat} (hd : 12 ≤ d) {g0 : pH} {B : tC} {n : Int} (hB : jB g0 B n) {p k : Int} {o v : tC} (hLP : lP n p k) {w op ft u : Int} {sa wa : tC} {g : pH} (hS : jS g0 g p k w op ft u sa wa) (hC : jC k o v sa) (hh : tH B n p = 40) {f : Int} (hr : lI (tH B n) n 10 1 (p + 1) k o v (.inl f)) {Q : Option pv × pH → Prop} (hQ : jOK g0 Q f) : jRC d Q g :=
  rc_y (by omega) hB hLP hS hC hh (fun g1 hg1 => (hr _ (j_cl hB)).2 (by decide) d Q [(13, 0)] hd (Or.inl rfl) (by decide) hQ g1 hg1)
theorem cd_w {d : Nat} (hd : 12 ≤ d) {g0 : pH} {B : tC} {n : Int} (hB : jB g0 B n) {p k : Int} {o v : tC} (hLP : lP n p k) {w op ft u : Int} {sa wa : tC} {g : pH} (hS : jS g0 g p k w op ft u sa wa) (hC : jC k o v sa) (hh : tH B n p = 40) {p1 k1 : Int} {o1 v1 : tC} (hr : lI (tH B n) n 10 1 (p + 1) k o v (.inr (p1, k1, o1, v1))) (hLP1 : lP n p1 k1) (h1 : tH B n p1 ≠ 41) {Q : Option pv × pH → Prop} (hQ : jOK g0 Q (-1000 - p1)) : jRC d Q g :=
  rc_y (by omega) hB hLP hS hC hh (fun g1 hg1 => by
    have h6 := (hr _ (j_cl hB)).2 (by decide) d Q [(13, 0)] hd (Or.inl rfl) (by decide)
    refine h6.2 (mc_le hB hLP1 ⟨by decide, by decide⟩ (Or.inl rfl) (fun g2 hle => ?_)) g1 hg1
    obtain ⟨l, v', hg2⟩ := hle.1
    exact cr_b (by omega) hB hLP1 ⟨by decide, by decide⟩ hg2 h1 h6.1.2 h6.1.1 hQ)
theorem cd_o {d : Nat} (hd : 12 ≤ d) {g0 : pH} {B : tC} {n : Int} (hB : jB g0 B n) {p k : Int} {o v : tC} (hLP : lP n p k) {w op ft u : Int} {sa wa : tC} {g : pH} (hS : jS g0 g p k w op ft u sa wa) (hC : jC k o v sa) (hh : tH B n p = 40) {p1 k1 : Int} {o1 v1 : tC} (hr : lI (tH B n) n 10 1 (p + 1) k o v (.inr (p1, k1, o1, v1))) (hLP1 : lP n p1 k1) (h1 : tH B n p1 = 41) {Q : Option pv × pH → Prop} (hQ : ∀ g1, jSt g0 g1 (p1 + 1) k1 o1 v1 0 [] → Q (some (oI 1), g1)) : jRC d Q g :=
  rc_y (by omega) hB hLP hS hC hh (fun g1 hg1 => by
    have h6 := (hr _ (j_cl hB)).2 (by decide) d Q [(13, 0)] hd (Or.inl rfl) (by decide)
    exact h6.2 (mc_le hB hLP1 ⟨by decide, by decide⟩ (Or.inl rfl) (fun g2 hle => cr_e (π := []) (by omega) hB hLP1 ⟨by decide, by decide⟩ hle h1 hQ)) g1 hg1)
theorem sm_f {d : Nat} (hd : 12 ≤ d) {g0 : pH} {B : tC} {n : Int} (hB : jB g0 B n) {p k : Int} {o v : tC} (hLP : lP n p k) {ft u : Int} {sa wa : tC} {g : pH} (hS : jS g0 g p k 0 0 ft u sa wa) (hC : jC k o v sa) {f : Int} (hr : lI (tH B n) n 4 0 p k o v (.inl f)) {Q : Option pv × pH → Prop} (hQ : jOK g0 Q f) : jSu d Q g :=
  su_f (δ := 0) (π := []) (by omega) ((hr _ (j_cl hB)).2 (by decide) d Q 0 [] (by omega) (by decide) (Nat.le_refl _) trivial hQ) ⟨ft, u, sa, wa, hS, hC, trivial, hLP.1⟩
theorem sm_o {d : Nat} (hd : 12 ≤ d) {g0 : pH} {B : tC} {n : Int} (hB : jB g0 B n) {p k : Int} {o v : tC} (hLP : lP n p k) {ft u : Int} {sa wa : tC} {g : pH} (hS : jS g0 g p k 0 0 ft u sa wa) (hC : jC k o v sa) {p1 k1 : Int} {o1 v1 : tC} (hr : lI (tH B n) n 4 0 p k o v (.inr (p1, k1, o1, v1))) (hLP1 : lP n p1 k1) {Q : Option pv × pH → Prop} (hQ : ∀ g1, jSt g0 g1 p1 k1 o1 v1 0 [] → Q (some (oI 1), g1)) : jSu d Q g := by
  have h6 := (hr _ (j_cl hB)).2 (by decide) d Q 0 [] (by omega) (by decide) (Nat.le_refl _) trivial
  exact su_f (δ := 0) (π := []) (by omega) (h6.2 (mu_re hB hLP1 ⟨by decide, by decide⟩ trivial (fun g2 hg2 => sl_e (by omega) hB hLP1 ⟨by decide, by decide⟩ (by decide) hg2 rfl (by unfold lSg; rw [if_pos h6.1.1]; exact h6.1.2) hQ))) ⟨ft, u, sa, wa, hS, hC, trivial, hLP.1⟩
