/-! reference: the law's text: the law's loop (printed by wip/e2/v10.py) -/
theorem jlw_46 : xe_look (xc 213) 46 = some (.iload_n 2, 1, 0, 0, 0) := by decide +kernel
theorem jlw_47 : xe_look (xc 213) 47 = some (.ifCond .eq 39, 3, 0, 0, 0) := by decide +kernel
theorem jlw_50 : xe_look (xc 213) 50 = some (.aload_n 0, 1, 0, 0, 0) := by decide +kernel
theorem jlw_51 : xe_look (xc 213) 51 = some (.getfield 242, 3, 12, 18, 1135) := by decide +kernel
theorem jlw_54 : xe_look (xc 213) 54 = some (.aload_n 0, 1, 0, 0, 0) := by decide +kernel
theorem jlw_55 : xe_look (xc 213) 55 = some (.getfield 277, 3, 12, 19, 1190) := by decide +kernel
theorem jlw_58 : xe_look (xc 213) 58 = some (.if_icmp .ge 28, 3, 0, 0, 0) := by decide +kernel
theorem jlw_61 : xe_look (xc 213) 61 = some (.aload_n 0, 1, 0, 0, 0) := by decide +kernel
theorem jlw_62 : xe_look (xc 213) 62 = some (.bipush 59, 2, 0, 0, 0) := by decide +kernel
theorem jlw_64 : xe_look (xc 213) 64 = some (.invokevirtual 283, 3, 0, 260, 1232) := by decide +kernel
theorem jlw_67 : xe_look (xc 213) 67 = some (.ifCond .eq 14, 3, 0, 0, 0) := by decide +kernel
theorem jlw_70 : xe_look (xc 213) 70 = some (.aload_n 0, 1, 0, 0, 0) := by decide +kernel
theorem jlw_71 : xe_look (xc 213) 71 = some (.invokevirtual 359, 3, 0, 233, 1231) := by decide +kernel
theorem jlw_74 : xe_look (xc 213) 74 = some (.ifCond .eq 7, 3, 0, 0, 0) := by decide +kernel
theorem jlw_77 : xe_look (xc 213) 77 = some (.iconst 1, 1, 0, 0, 0) := by decide +kernel
theorem jlw_78 : xe_look (xc 213) 78 = some (.goto 4, 3, 0, 0, 0) := by decide +kernel
theorem jlw_81 : xe_look (xc 213) 81 = some (.iconst 0, 1, 0, 0, 0) := by decide +kernel
theorem jlw_82 : xe_look (xc 213) 82 = some (.istore_n 2, 1, 0, 0, 0) := by decide +kernel
theorem jlw_83 : xe_look (xc 213) 83 = some (.goto (-37), 3, 0, 0, 0) := by decide +kernel
def z8 (d : Nat) (b : Int) (Q : Option pv × pH → Prop) (g : pH) : Prop := ∀ lv : List (Nat × pv), px_lg lv 0 = some (pvR 196) → px_lg lv 2 = some (oI b) → t_X d 213 86 lv [] g Q
def z4 (d : Nat) (b : Int) (Q : Option pv × pH → Prop) (g : pH) : Prop := ∀ lv : List (Nat × pv), px_lg lv 0 = some (pvR 196) → px_lg lv 2 = some (oI b) → t_X d 213 46 lv [] g Q
def zc (d : Nat) (Q : Option pv × pH → Prop) (g : pH) : Prop := ∀ lv : List (Nat × pv), px_lg lv 0 = some (pvR 196) → t_X d 233 0 lv [] g Q
def zQ (d : Nat) (Q QC : Option pv × pH → Prop) : Prop := (∀ g1, z4 d 1 Q g1 → QC (some (oI 1), g1)) ∧ ∀ g1, z4 d 0 Q g1 → QC (some (oI 0), g1)
def zR (g0 : pH) (n : Int) (d : Nat) (Q : Option pv × pH → Prop) : lZ → Prop
  | .inl f => ∀ g, zF g0 g f → z8 d 0 Q g
  | .inr (p1, k1, o1, v1, c1, le1, st1, co1, en1) => lP n p1 k1 → p1 = n → ∀ g, zT g0 g p1 k1 o1 v1 c1 le1 st1 co1 en1 → z8 d 1 Q g
def zW (g0 : pH) (n : Int) (d : Nat) (Q : Option pv × pH → Prop) (p k : Int) (o v : tC) (c : Int) (le st co en : tC) (r : lZ) : Prop := zR g0 n d Q r → ∀ g, zT g0 g p k o v c le st co en → ∀ QC, zQ d Q QC → zc (d - 1) QC g
theorem zl_0 {d : Nat} {g : pH} {Q : Option pv × pH → Prop} (h : z8 d 0 Q g) : z4 d 0 Q g := by
  intro lv l0 l2
  refine t_0 jlw_46 rfl (ld_i l2) ?_
  refine tz_eq jlw_47 (by decide) ⟨by omega, by omega⟩ (fun c1 => ?_) (fun c1 => absurd c1 (by omega))
  show t_X d 213 86 lv [] g Q
  exact h _ l0 l2
theorem zl_e {d : Nat} (hd : 15 ≤ d) {g0 : pH} {B : tC} {n : Int} (hB : jB g0 B n) {p k c : Int} {o v le st co en : tC} (hLP : lP n p k) {g : pH} (hg : zT g0 g p k o v c le st co en) {Q : Option pv × pH → Prop} (hp : p = n) (h : z8 d 1 Q g) : z4 d 1 Q g := by
  intro lv l0 l2
  obtain ⟨w, op, ft, u, sa, wa, sl, ss, sc, se, hS, hC, hA⟩ := hg
  have hLP9 := hLP
  unfold lP at hLP9
  have hn0 := hB.2.2.1
  have hn1 := hB.2.2.2
  have hH : ∀ q, 0 ≤ q → -1 ≤ tH B n q ∧ tH B n q ≤ 255 := fun q hq => tH_b (jp_b hB.2.1) (by omega) hq
  refine t_0 jlw_46 rfl (ld_i l2) ?_
  refine tz_eq jlw_47 (by decide) ⟨by omega, by omega⟩ (fun c1 => absurd c1 (by omega)) (fun c1 => ?_)
  show t_X d 213 50 lv [] g Q
  refine t_0 jlw_50 rfl (ld_a l0) ?_
  refine t_0 jlw_51 rfl (pq_cv jeo_196 rfl (show cF g 196 18 = p from S_f hS 0 (Nat.le_of_ble_eq_true rfl))) ?_
  show t_X d 213 54 lv [oI (p)] g Q
  refine t_0 jlw_54 rfl (ld_a l0) ?_
  refine t_0 jlw_55 rfl (pq_cv jeo_196 rfl (ze_l hB hS : cF g 196 19 = n)) ?_
  show t_X d 213 58 lv [oI (n), oI (p)] g Q
  refine tb_ge jlw_58 (by decide) ⟨by omega, by omega⟩ ⟨by omega, by omega⟩ (fun c2 => ?_) (fun c2 => absurd c2 (by omega))
  show t_X d 213 86 lv [] g Q
  exact h _ l0 l2
theorem zl_b {d : Nat} (hd : 15 ≤ d) {g0 : pH} {B : tC} {n : Int} (hB : jB g0 B n) {p k c : Int} {o v le st co en : tC} (hLP : lP n p k) {g : pH} (hg : zT g0 g p k o v c le st co en) {Q : Option pv × pH → Prop} (hp : p < n) (hh : tH B n p ≠ 59) (h : ∀ g1, zF g0 g1 (-1000 - p) → z8 d 0 Q g1) : z4 d 1 Q g := by
  intro lv l0 l2
  obtain ⟨w, op, ft, u, sa, wa, sl, ss, sc, se, hS, hC, hA⟩ := hg
  have hLP9 := hLP
  unfold lP at hLP9
  have hn0 := hB.2.2.1
  have hn1 := hB.2.2.2
  have hH : ∀ q, 0 ≤ q → -1 ≤ tH B n q ∧ tH B n q ≤ 255 := fun q hq => tH_b (jp_b hB.2.1) (by omega) hq
  refine t_0 jlw_46 rfl (ld_i l2) ?_
  refine tz_eq jlw_47 (by decide) ⟨by omega, by omega⟩ (fun c1 => absurd c1 (by omega)) (fun c1 => ?_)
  show t_X d 213 50 lv [] g Q
  refine t_0 jlw_50 rfl (ld_a l0) ?_
  refine t_0 jlw_51 rfl (pq_cv jeo_196 rfl (show cF g 196 18 = p from S_f hS 0 (Nat.le_of_ble_eq_true rfl))) ?_
  show t_X d 213 54 lv [oI (p)] g Q
  refine t_0 jlw_54 rfl (ld_a l0) ?_
  refine t_0 jlw_55 rfl (pq_cv jeo_196 rfl (ze_l hB hS : cF g 196 19 = n)) ?_
  show t_X d 213 58 lv [oI (n), oI (p)] g Q
  refine tb_ge jlw_58 (by decide) ⟨by omega, by omega⟩ ⟨by omega, by omega⟩ (fun c2 => absurd c2 (by omega)) (fun c2 => ?_)
  show t_X d 213 61 lv [] g Q
  refine t_0 jlw_61 rfl (ld_a l0) ?_
  refine t_0 jlw_62 rfl (pq_b (by decide)) ?_
  refine t_3 jlw_64 rfl (ar := ([pvR 196, oI 59], [])) (pcal_w (as := [oI 59]) rfl rfl rfl jeo_196) ⟨by omega, Nat.le_of_ble_eq_true rfl, Nat.le_of_ble_eq_true rfl, rfl⟩ ?_
  refine jtk_run (by omega) (z_B hB hS) (zj_in hS) ⟨by omega, by omega⟩ (by omega) (fun t3 g3 hj3 => ?_) (fun t3 g3 hj3 => ?_) rfl rfl
  · exact absurd t3 (by omega)
  · have hS3 := z_out hS hj3
    replace hS3 : zS g0 g3 p k w op (-1000 - p) u c sa wa sl ss sc se := hS3
    show t_X d 213 67 lv [oI 0] g3 Q
    refine tz_eq jlw_67 (by decide) ⟨by omega, by omega⟩ (fun c4 => ?_) (fun c4 => absurd c4 (by omega))
    show t_X d 213 81 lv [] g3 Q
    refine t_0 jlw_81 rfl rfl ?_
    refine t_2 jlw_82 rfl (w := (px_s1 lv 2 (oI 0), [])) rfl ?_
    replace l0 : px_lg (px_s1 lv 2 (oI 0)) 0 = some (pvR 196) := s1_ne (by decide) (fun _ => rfl) l0
    have l2 : px_lg (px_s1 lv 2 (oI 0)) 2 = some (oI 0) := s1_eq
    generalize px_s1 lv 2 (oI 0) = lv5 at l0 l2 ⊢
    show t_X d 213 83 lv5 [] g3 Q
    refine t_1 jlw_83 rfl (pb_goto (pc := 83) (by decide)) ?_
    show t_X d 213 46 lv5 [] g3 Q
    exact zl_0 (h _ ⟨_, _, _, _, _, _, _, _, _, _, _, _, hS3⟩) _ l0 l2
theorem zl_n {d : Nat} (hd : 15 ≤ d) {g0 : pH} {B : tC} {n : Int} (hB : jB g0 B n) {p k c : Int} {o v le st co en : tC} (hLP : lP n p k) {g : pH} (hg : zT g0 g p k o v c le st co en) {Q : Option pv × pH → Prop} (hp : p < n) (hh : tH B n p = 59) (h : ∀ g1, zT g0 g1 (p + 1) k o v c le st co en → ∀ QC, zQ d Q QC → zc (d - 1) QC g1) : z4 d 1 Q g := by
  intro lv l0 l2
  obtain ⟨w, op, ft, u, sa, wa, sl, ss, sc, se, hS, hC, hA⟩ := hg
  have hLP9 := hLP
  unfold lP at hLP9
  have hn0 := hB.2.2.1
  have hn1 := hB.2.2.2
  have hH : ∀ q, 0 ≤ q → -1 ≤ tH B n q ∧ tH B n q ≤ 255 := fun q hq => tH_b (jp_b hB.2.1) (by omega) hq
  refine t_0 jlw_46 rfl (ld_i l2) ?_
  refine tz_eq jlw_47 (by decide) ⟨by omega, by omega⟩ (fun c1 => absurd c1 (by omega)) (fun c1 => ?_)
  show t_X d 213 50 lv [] g Q
  refine t_0 jlw_50 rfl (ld_a l0) ?_
  refine t_0 jlw_51 rfl (pq_cv jeo_196 rfl (show cF g 196 18 = p from S_f hS 0 (Nat.le_of_ble_eq_true rfl))) ?_
  show t_X d 213 54 lv [oI (p)] g Q
  refine t_0 jlw_54 rfl (ld_a l0) ?_
  refine t_0 jlw_55 rfl (pq_cv jeo_196 rfl (ze_l hB hS : cF g 196 19 = n)) ?_
  show t_X d 213 58 lv [oI (n), oI (p)] g Q
  refine tb_ge jlw_58 (by decide) ⟨by omega, by omega⟩ ⟨by omega, by omega⟩ (fun c2 => absurd c2 (by omega)) (fun c2 => ?_)
  show t_X d 213 61 lv [] g Q
  refine t_0 jlw_61 rfl (ld_a l0) ?_
  refine t_0 jlw_62 rfl (pq_b (by decide)) ?_
  refine t_3 jlw_64 rfl (ar := ([pvR 196, oI 59], [])) (pcal_w (as := [oI 59]) rfl rfl rfl jeo_196) ⟨by omega, Nat.le_of_ble_eq_true rfl, Nat.le_of_ble_eq_true rfl, rfl⟩ ?_
  refine jtk_run (by omega) (z_B hB hS) (zj_in hS) ⟨by omega, by omega⟩ (by omega) (fun t3 g3 hj3 => ?_) (fun t3 g3 hj3 => ?_) rfl rfl
  · have hS3 := z_out hS hj3
    replace hS3 : zS g0 g3 (p + 1) k w op ft u c sa wa sl ss sc se := hS3
    show t_X d 213 67 lv [oI 1] g3 Q
    refine tz_eq jlw_67 (by decide) ⟨by omega, by omega⟩ (fun c4 => absurd c4 (by omega)) (fun c4 => ?_)
    show t_X d 213 70 lv [] g3 Q
    refine t_0 jlw_70 rfl (ld_a l0) ?_
    refine t_3 jlw_71 rfl (ar := ([pvR 196], [])) (pcal_w (as := []) rfl rfl rfl jeo_196) ⟨by omega, Nat.le_of_ble_eq_true rfl, Nat.le_of_ble_eq_true rfl, rfl⟩ ?_
    refine h _ ⟨_, _, _, _, _, _, _, _, _, _, hS3, hC, hA⟩ _ ⟨fun g8 a8 => ?_, fun g8 a8 => ?_⟩ _ rfl
    · show t_X d 213 74 lv [oI 1] g8 Q
      refine tz_eq jlw_74 (by decide) ⟨by omega, by omega⟩ (fun c5 => absurd c5 (by omega)) (fun c5 => ?_)
      show t_X d 213 77 lv [] g8 Q
      refine t_0 jlw_77 rfl rfl ?_
      refine t_1 jlw_78 rfl (pb_goto (pc := 78) (by decide)) ?_
      show t_X d 213 82 lv [oI 1] g8 Q
      refine t_2 jlw_82 rfl (w := (px_s1 lv 2 (oI 1), [])) rfl ?_
      replace l0 : px_lg (px_s1 lv 2 (oI 1)) 0 = some (pvR 196) := s1_ne (by decide) (fun _ => rfl) l0
      have l2 : px_lg (px_s1 lv 2 (oI 1)) 2 = some (oI 1) := s1_eq
      generalize px_s1 lv 2 (oI 1) = lv6 at l0 l2 ⊢
      show t_X d 213 83 lv6 [] g8 Q
      refine t_1 jlw_83 rfl (pb_goto (pc := 83) (by decide)) ?_
      show t_X d 213 46 lv6 [] g8 Q
      exact a8 _ l0 l2
    · show t_X d 213 74 lv [oI 0] g8 Q
      refine tz_eq jlw_74 (by decide) ⟨by omega, by omega⟩ (fun c7 => ?_) (fun c7 => absurd c7 (by omega))
      show t_X d 213 81 lv [] g8 Q
      refine t_0 jlw_81 rfl rfl ?_
      refine t_2 jlw_82 rfl (w := (px_s1 lv 2 (oI 0), [])) rfl ?_
      replace l0 : px_lg (px_s1 lv 2 (oI 0)) 0 = some (pvR 196) := s1_ne (by decide) (fun _ => rfl) l0
      have l2 : px_lg (px_s1 lv 2 (oI 0)) 2 = some (oI 0) := s1_eq
      generalize px_s1 lv 2 (oI 0) = lv8 at l0 l2 ⊢
      show t_X d 213 83 lv8 [] g8 Q
      refine t_1 jlw_83 rfl (pb_goto (pc := 83) (by decide)) ?_
      show t_X d 213 46 lv8 [] g8 Q
      exact a8 _ l0 l2
  · exact absurd hh t3
theorem zw_c {d : Nat} (hd : 15 ≤ d) {g0 : pH} {B : tC} {n : Int} (hB : jB g0 B n) {Q : Option pv × pH → Prop} : lWc (tH B n) n (zW g0 n d Q) := by
  refine ⟨fun p k o v c le st co en f hLP hc hU hR g hg QC hQ lv l0 => ?_, fun p k o v c le st co en p1 k1 o1 v1 c1 le1 st1 co1 en1 hLP hc hU h1 hR g hg QC hQ lv l0 => ?_, fun p k o v c le st co en p1 k1 o1 v1 c1 le1 st1 co1 en1 hLP hc hU h1 hh hR g hg QC hQ lv l0 => ?_, fun p k o v c le st co en p1 k1 o1 v1 c1 le1 st1 co1 en1 r hLP hc hU h1 hh hw hR g hg QC hQ lv l0 => ?_⟩
  · exact cl_x (by omega) hB hLP hc hg hU (Q := QC) (fun g1 h2 => hQ.2 g1 (zl_0 (hR g1 h2))) l0
  · exact cl_x (by omega) hB hLP hc hg hU (Q := QC) (fun g1 h2 => hQ.1 g1 (zl_e hd hB h1.1 h2 h1.2 (hR h1.1 h1.2 g1 h2))) l0
  · exact cl_x (by omega) hB hLP hc hg hU (Q := QC) (fun g1 h2 => hQ.1 g1 (zl_b hd hB h1.1 h2 h1.2 hh hR)) l0
  · exact cl_x (by omega) hB hLP hc hg hU (Q := QC) (fun g1 h2 => hQ.1 g1 (zl_n hd hB h1.1 h2 h1.2 hh (hw hR))) l0
