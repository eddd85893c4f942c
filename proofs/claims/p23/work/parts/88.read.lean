/-! by hand: readers, what they share (printed in part by wip/e2/tr.py) -/
theorem qdi_0 : xe_look (xc 203) 0 = some (.aload_n 0, 1, 0, 0, 0) := by decide +kernel
theorem qdi_1 : xe_look (xc 203) 1 = some (.invokevirtual 252, 3, 0, 198, 1137) := by decide +kernel
theorem qdi_4 : xe_look (xc 203) 4 = some (.bipush 48, 2, 0, 0, 0) := by decide +kernel
theorem qdi_6 : xe_look (xc 203) 6 = some (.if_icmp .lt 16, 3, 0, 0, 0) := by decide +kernel
theorem qdi_9 : xe_look (xc 203) 9 = some (.aload_n 0, 1, 0, 0, 0) := by decide +kernel
theorem qdi_10 : xe_look (xc 203) 10 = some (.invokevirtual 252, 3, 0, 198, 1137) := by decide +kernel
theorem qdi_13 : xe_look (xc 203) 13 = some (.bipush 57, 2, 0, 0, 0) := by decide +kernel
theorem qdi_15 : xe_look (xc 203) 15 = some (.if_icmp .gt 7, 3, 0, 0, 0) := by decide +kernel
theorem qdi_18 : xe_look (xc 203) 18 = some (.iconst 1, 1, 0, 0, 0) := by decide +kernel
theorem qdi_19 : xe_look (xc 203) 19 = some (.goto 4, 3, 0, 0, 0) := by decide +kernel
theorem qdi_22 : xe_look (xc 203) 22 = some (.iconst 0, 1, 0, 0, 0) := by decide +kernel
theorem qdi_23 : xe_look (xc 203) 23 = some (.ireturn, 1, 0, 0, 0) := by decide +kernel
theorem qhe_0 : xe_look (xc 198) 0 = some (.aload_n 0, 1, 0, 0, 0) := by decide +kernel
theorem qhe_1 : xe_look (xc 198) 1 = some (.getfield 242, 3, 12, 18, 1135) := by decide +kernel
theorem qhe_4 : xe_look (xc 198) 4 = some (.aload_n 0, 1, 0, 0, 0) := by decide +kernel
theorem qhe_5 : xe_look (xc 198) 5 = some (.getfield 277, 3, 12, 19, 1190) := by decide +kernel
theorem qhe_8 : xe_look (xc 198) 8 = some (.if_icmp .ge 19, 3, 0, 0, 0) := by decide +kernel
theorem qhe_11 : xe_look (xc 198) 11 = some (.aload_n 0, 1, 0, 0, 0) := by decide +kernel
theorem qhe_12 : xe_look (xc 198) 12 = some (.getfield 53, 3, 12, 16, 1134) := by decide +kernel
theorem qhe_15 : xe_look (xc 198) 15 = some (.aload_n 0, 1, 0, 0, 0) := by decide +kernel
theorem qhe_16 : xe_look (xc 198) 16 = some (.getfield 242, 3, 12, 18, 1135) := by decide +kernel
theorem qhe_19 : xe_look (xc 198) 19 = some (.baload, 1, 0, 0, 0) := by decide +kernel
theorem qhe_20 : xe_look (xc 198) 20 = some (.sipush 255, 3, 0, 0, 0) := by decide +kernel
theorem qhe_23 : xe_look (xc 198) 23 = some (.iand, 1, 0, 0, 0) := by decide +kernel
theorem qhe_24 : xe_look (xc 198) 24 = some (.goto 4, 3, 0, 0, 0) := by decide +kernel
theorem qhe_27 : xe_look (xc 198) 27 = some (.iconst (-1), 1, 0, 0, 0) := by decide +kernel
theorem qhe_28 : xe_look (xc 198) 28 = some (.ireturn, 1, 0, 0, 0) := by decide +kernel
theorem qtk_0 : xe_look (xc 260) 0 = some (.aload_n 0, 1, 0, 0, 0) := by decide +kernel
theorem qtk_1 : xe_look (xc 260) 1 = some (.invokevirtual 252, 3, 0, 198, 1137) := by decide +kernel
theorem qtk_4 : xe_look (xc 260) 4 = some (.iload_n 1, 1, 0, 0, 0) := by decide +kernel
theorem qtk_5 : xe_look (xc 260) 5 = some (.if_icmp .eq 13, 3, 0, 0, 0) := by decide +kernel
theorem qtk_8 : xe_look (xc 260) 8 = some (.aload_n 0, 1, 0, 0, 0) := by decide +kernel
theorem qtk_9 : xe_look (xc 260) 9 = some (.iconst 1, 1, 0, 0, 0) := by decide +kernel
theorem qtk_10 : xe_look (xc 260) 10 = some (.aload_n 0, 1, 0, 0, 0) := by decide +kernel
theorem qtk_11 : xe_look (xc 260) 11 = some (.getfield 242, 3, 12, 18, 1135) := by decide +kernel
theorem qtk_14 : xe_look (xc 260) 14 = some (.invokevirtual 256, 3, 0, 274, 1138) := by decide +kernel
theorem qtk_17 : xe_look (xc 260) 17 = some (.ireturn, 1, 0, 0, 0) := by decide +kernel
theorem qtk_18 : xe_look (xc 260) 18 = some (.aload_n 0, 1, 0, 0, 0) := by decide +kernel
theorem qtk_19 : xe_look (xc 260) 19 = some (.aload_n 0, 1, 0, 0, 0) := by decide +kernel
theorem qtk_20 : xe_look (xc 260) 20 = some (.getfield 242, 3, 12, 18, 1135) := by decide +kernel
theorem qtk_23 : xe_look (xc 260) 23 = some (.iconst 1, 1, 0, 0, 0) := by decide +kernel
theorem qtk_24 : xe_look (xc 260) 24 = some (.iadd, 1, 0, 0, 0) := by decide +kernel
theorem qtk_25 : xe_look (xc 260) 25 = some (.putfield 242, 3, 12, 18, 1135) := by decide +kernel
theorem qtk_28 : xe_look (xc 260) 28 = some (.iconst 1, 1, 0, 0, 0) := by decide +kernel
theorem qtk_29 : xe_look (xc 260) 29 = some (.ireturn, 1, 0, 0, 0) := by decide +kernel
theorem qwr_0 : xe_look (xc 274) 0 = some (.aload_n 0, 1, 0, 0, 0) := by decide +kernel
theorem qwr_1 : xe_look (xc 274) 1 = some (.sipush (-1000), 3, 0, 0, 0) := by decide +kernel
theorem qwr_4 : xe_look (xc 274) 4 = some (.iload_n 1, 1, 0, 0, 0) := by decide +kernel
theorem qwr_5 : xe_look (xc 274) 5 = some (.imul, 1, 0, 0, 0) := by decide +kernel
theorem qwr_6 : xe_look (xc 274) 6 = some (.iload_n 2, 1, 0, 0, 0) := by decide +kernel
theorem qwr_7 : xe_look (xc 274) 7 = some (.isub, 1, 0, 0, 0) := by decide +kernel
theorem qwr_8 : xe_look (xc 274) 8 = some (.putfield 286, 3, 12, 20, 1233) := by decide +kernel
theorem qwr_11 : xe_look (xc 274) 11 = some (.iconst 0, 1, 0, 0, 0) := by decide +kernel
theorem qwr_12 : xe_look (xc 274) 12 = some (.ireturn, 1, 0, 0, 0) := by decide +kernel
theorem gf_18 : eG (cn 196 + 18) = ((-2147483648), 2147483647, []) := by decide +kernel
theorem gf_20 : eG (cn 196 + 20) = ((-2147483648), 2147483647, []) := by decide +kernel
def hV (g : pH) : Int := if fF g 18 < fF g 19 then ((Int32.ofInt (fA g 211 (fF g 18).toNat)) &&& (Int32.ofInt 255)).toInt else -1
theorem hV_b (g : pH) : -1 ≤ hV g ∧ hV g ≤ 255 := by
  unfold hV
  split
  · have := eo_and_r (x := Int32.ofInt (fA g 211 (fF g 18).toNat)) (y := Int32.ofInt 255) (by decide)
    have e : (Int32.ofInt 255).toInt = 255 := by decide
    omega
  · omega
theorem hV_n (g : pH) : -1 < hV g → fF g 18 < fF g 19 := by
  intro h
  unfold hV at h
  split at h
  · assumption
  · omega
theorem hV_e {g g1 : pH} (h1 : fF g1 18 = fF g 18) (h2 : fF g1 19 = fF g 19) (h3 : fA g1 211 = fA g 211) : hV g1 = hV g := by
  unfold hV
  rw [h1, h2, h3]
theorem he_run {d : Nat} {g : pH} (hG : g_I eG g) (h0 : 0 ≤ fF g 18) (h1 : fF g 19 ≤ 240) {P : Option pv × pH → Prop} (hP : P (some (oI (hV g)), g)) {lv : List (Nat × pv)} (l0 : px_lg lv 0 = some (pvR 196)) : t_X d 198 0 lv [] g P := by
  have hJ : J_ 0 g g := J_rf hG
  refine t_0 qhe_0 rfl (ld_a l0) ?_
  have r1 := fF_b g 18
  refine t_0 qhe_1 rfl (pq_gf (y := 18) rfl) ?_
  refine t_0 qhe_4 rfl (ld_a l0) ?_
  have r2 := fF_b g 19
  refine t_0 qhe_5 rfl (pq_gf (y := 19) rfl) ?_
  refine tb_ge qhe_8 (by decide) ⟨by omega, by omega⟩ ⟨by omega, by omega⟩ (fun c3 => ?_) (fun c3 => ?_)
  · show t_X d 198 27 lv [] g P
    refine t_0 qhe_27 rfl rfl ?_
    refine t_5 qhe_28 rfl rfl ?_
    have e : hV g = -1 := if_neg (by omega)
    rw [e] at hP
    exact hP
  · show t_X d 198 11 lv [] g P
    refine t_0 qhe_11 rfl (ld_a l0) ?_
    refine t_0 qhe_12 rfl (ar_16 hJ.1) ?_
    refine t_0 qhe_15 rfl (ld_a l0) ?_
    have r4 := fF_b g 18
    refine t_0 qhe_16 rfl (pq_gf (y := 18) rfl) ?_
    refine t_0 qhe_19 rfl (pq_ba el_211 rfl ⟨by omega, by omega⟩) ?_
    have r5 := fA_b g 211 (fF g 18).toNat
    refine t_0 qhe_20 rfl (pq_s (by decide)) ?_
    refine t_0 qhe_23 rfl rfl ?_
    refine t_1 qhe_24 rfl (pb_goto (pc := 24) (by decide)) ?_
    show t_X d 198 28 lv [.inl ((Int32.ofInt (fA g 211 (fF g 18).toNat)) &&& (Int32.ofInt (255)))] g P
    refine t_5 qhe_28 rfl rfl ?_
    rw [oI_r]
    have e : hV g = ((Int32.ofInt (fA g 211 (fF g 18).toNat)) &&& (Int32.ofInt (255))).toInt := if_pos c3
    rw [← e]
    exact hP
theorem di_run {d : Nat} (hd : 1 ≤ d) {g : pH} (hG : g_I eG g) (h0 : 0 ≤ fF g 18) (h3 : fF g 19 ≤ 240) {P : Option pv × pH → Prop} (h1 : 48 ≤ hV g ∧ hV g ≤ 57 → P (some (oI 1), g)) (h2 : hV g < 48 ∨ 57 < hV g → P (some (oI 0), g)) {lv : List (Nat × pv)} (l0 : px_lg lv 0 = some (pvR 196)) : t_X d 203 0 lv [] g P := by
  have hJ : J_ 0 g g := J_rf hG
  refine t_0 qdi_0 rfl (ld_a l0) ?_
  refine t_3 qdi_1 rfl (ar := ([pvR 196], [])) (pcal_v0 rfl rfl el_196) ⟨by omega, Nat.le_of_ble_eq_true rfl, Nat.le_of_ble_eq_true rfl, rfl⟩ ?_
  refine he_run hJ.1 (by omega) (by omega) ?_ rfl
  have hv1 := hV_b g
  have hn1 := hV_n g
  show t_X d 203 4 lv [oI (hV g)] g P
  refine t_0 qdi_4 rfl (pq_b (by decide)) ?_
  refine tb_lt qdi_6 (by decide) ⟨by omega, by omega⟩ ⟨by omega, by omega⟩ (fun c2 => ?_) (fun c2 => ?_)
  · show t_X d 203 22 lv [] g P
    refine t_0 qdi_22 rfl rfl ?_
    refine t_5 qdi_23 rfl rfl ?_
    exact h2 (by omega)
  · show t_X d 203 9 lv [] g P
    refine t_0 qdi_9 rfl (ld_a l0) ?_
    refine t_3 qdi_10 rfl (ar := ([pvR 196], [])) (pcal_v0 rfl rfl el_196) ⟨by omega, Nat.le_of_ble_eq_true rfl, Nat.le_of_ble_eq_true rfl, rfl⟩ ?_
    refine he_run hJ.1 (by omega) (by omega) ?_ rfl
    have hv3 := hV_b g
    have hn3 := hV_n g
    show t_X d 203 13 lv [oI (hV g)] g P
    refine t_0 qdi_13 rfl (pq_b (by decide)) ?_
    refine tb_gt qdi_15 (by decide) ⟨by omega, by omega⟩ ⟨by omega, by omega⟩ (fun c4 => ?_) (fun c4 => ?_)
    · show t_X d 203 22 lv [] g P
      refine t_0 qdi_22 rfl rfl ?_
      refine t_5 qdi_23 rfl rfl ?_
      exact h2 (by omega)
    · show t_X d 203 18 lv [] g P
      refine t_0 qdi_18 rfl rfl ?_
      refine t_1 qdi_19 rfl (pb_goto (pc := 19) (by decide)) ?_
      show t_X d 203 23 lv [oI (1)] g P
      refine t_5 qdi_23 rfl rfl ?_
      exact h1 ⟨by omega, by omega⟩
theorem wr_run {d W : Nat} {h0 g : pH} (hJ : J_ W h0 g) (w_20 : W.testBit (cn 196 + 20) = true) {a b : Int} {P : Option pv × pH → Prop} (hP : ∀ g1 : pH, J_ W h0 g1 → (∀ u, u ≠ 20 → fF g1 u = fF g u) → fA g1 = fA g → P (some (oI 0), g1)) {lv : List (Nat × pv)} (l0 : px_lg lv 0 = some (pvR 196)) (l1 : px_lg lv 1 = some (oI a)) (l2 : px_lg lv 2 = some (oI b)) : t_X d 274 0 lv [] g P := by
  refine t_0 qwr_0 rfl (ld_a l0) ?_
  refine t_0 qwr_1 rfl (pq_s (by decide)) ?_
  refine t_0 qwr_4 rfl (ld_i l1) ?_
  refine t_0 qwr_5 rfl pq_mul ?_
  refine t_0 qwr_6 rfl (ld_i l2) ?_
  refine t_0 qwr_7 rfl pq_sub ?_
  refine tw_fx qwr_8 rfl hJ w_20 gf_20 (fun g1 hJ1 f1 a1 => ?_)
  replace a1 := fA_2 a1
  show t_X d 274 11 lv [] g1 P
  refine t_0 qwr_11 rfl rfl ?_
  refine t_5 qwr_12 rfl rfl ?_
  exact hP _ hJ1 f1 a1
theorem tk_run {d W : Nat} (hd : 1 ≤ d) {h0 g : pH} (hJ : J_ W h0 g) (w_18 : W.testBit (cn 196 + 18) = true) (w_20 : W.testBit (cn 196 + 20) = true) (hp : 0 ≤ fF g 18 ∧ fF g 18 ≤ 240) (hl : fF g 19 ≤ 240) {c : Int} (hc : 0 ≤ c ∧ c ≤ 255) {P : Option pv × pH → Prop} (h1 : ∀ g1 : pH, fF g1 18 = fF g 18 + 1 → fF g 18 < fF g 19 → J_ W h0 g1 → (∀ u, u ≠ 18 → fF g1 u = fF g u) → fA g1 = fA g → P (some (oI 1), g1)) (h2 : ∀ g1 : pH, J_ W h0 g1 → P (some (oI 0), g1)) {lv : List (Nat × pv)} (l0 : px_lg lv 0 = some (pvR 196)) (l1 : px_lg lv 1 = some (oI c)) : t_X d 260 0 lv [] g P := by
  refine t_0 qtk_0 rfl (ld_a l0) ?_
  refine t_3 qtk_1 rfl (ar := ([pvR 196], [])) (pcal_v0 rfl rfl el_196) ⟨by omega, Nat.le_of_ble_eq_true rfl, Nat.le_of_ble_eq_true rfl, rfl⟩ ?_
  refine he_run hJ.1 (by omega) (by omega) ?_ rfl
  have hv1 := hV_b g
  have hn1 := hV_n g
  show t_X d 260 4 lv [oI (hV g)] g P
  refine t_0 qtk_4 rfl (ld_i l1) ?_
  refine tb_eq qtk_5 (by decide) ⟨by omega, by omega⟩ ⟨by omega, by omega⟩ (fun c2 => ?_) (fun c2 => ?_)
  · show t_X d 260 18 lv [] g P
    refine t_0 qtk_18 rfl (ld_a l0) ?_
    refine t_0 qtk_19 rfl (ld_a l0) ?_
    have r3 := fF_b g 18
    refine t_0 qtk_20 rfl (pq_gf (y := 18) rfl) ?_
    refine t_0 qtk_23 rfl rfl ?_
    refine t_0 qtk_24 rfl pq_add ?_
    refine tw_f qtk_25 rfl hJ w_18 gf_18 (by decide) ⟨by omega, by omega⟩ (fun g4 hJ4 v4 f4 a4 => ?_)
    replace a4 := fA_2 a4
    show t_X d 260 28 lv [] g4 P
    refine t_0 qtk_28 rfl rfl ?_
    refine t_5 qtk_29 rfl rfl ?_
    exact h1 _ (by omega) (by omega) hJ4 f4 a4
  · show t_X d 260 8 lv [] g P
    refine t_0 qtk_8 rfl (ld_a l0) ?_
    refine t_0 qtk_9 rfl rfl ?_
    refine t_0 qtk_10 rfl (ld_a l0) ?_
    have r5 := fF_b g 18
    refine t_0 qtk_11 rfl (pq_gf (y := 18) rfl) ?_
    refine t_3 qtk_14 rfl (ar := ([pvR 196, oI (1), oI (fF g 18)], [])) (pcal_v2 rfl rfl el_196) ⟨by omega, Nat.le_of_ble_eq_true rfl, Nat.le_of_ble_eq_true rfl, rfl⟩ ?_
    refine wr_run hJ w_20 (fun g6 hJ6 f6 a6 => ?_) rfl rfl rfl
    show t_X d 260 17 lv [oI (0)] g6 P
    refine t_5 qtk_17 rfl rfl ?_
    exact h2 _ hJ6
