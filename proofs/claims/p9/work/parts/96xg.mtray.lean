/-! reference: items and the tray, by the rules (printed by wip/e2/u3.py) -/
theorem yri_0 : xe_look (xc 237) 0 = some (.aload_n 0, 1, 0, 0, 0) := by decide +kernel
theorem yri_1 : xe_look (xc 237) 1 = some (.invokevirtual 252, 3, 0, 198, 1137) := by decide +kernel
theorem yri_4 : xe_look (xc 237) 4 = some (.bipush 40, 2, 0, 0, 0) := by decide +kernel
theorem yri_6 : xe_look (xc 237) 6 = some (.if_icmp .ne 12, 3, 0, 0, 0) := by decide +kernel
theorem yri_9 : xe_look (xc 237) 9 = some (.aload_n 0, 1, 0, 0, 0) := by decide +kernel
theorem yri_10 : xe_look (xc 237) 10 = some (.invokevirtual 268, 3, 0, 230, 1265) := by decide +kernel
theorem yri_13 : xe_look (xc 237) 13 = some (.ifCond .ne (-13), 3, 0, 0, 0) := by decide +kernel
theorem yri_16 : xe_look (xc 237) 16 = some (.iconst 0, 1, 0, 0, 0) := by decide +kernel
theorem yri_17 : xe_look (xc 237) 17 = some (.ireturn, 1, 0, 0, 0) := by decide +kernel
theorem yri_18 : xe_look (xc 237) 18 = some (.aload_n 0, 1, 0, 0, 0) := by decide +kernel
theorem yri_19 : xe_look (xc 237) 19 = some (.invokevirtual 271, 3, 0, 239, 1266) := by decide +kernel
theorem yri_22 : xe_look (xc 237) 22 = some (.ifCond .ne 5, 3, 0, 0, 0) := by decide +kernel
theorem yri_25 : xe_look (xc 237) 25 = some (.iconst 0, 1, 0, 0, 0) := by decide +kernel
theorem yri_26 : xe_look (xc 237) 26 = some (.ireturn, 1, 0, 0, 0) := by decide +kernel
theorem yri_27 : xe_look (xc 237) 27 = some (.aload_n 0, 1, 0, 0, 0) := by decide +kernel
theorem yri_28 : xe_look (xc 237) 28 = some (.invokevirtual 252, 3, 0, 198, 1137) := by decide +kernel
theorem yri_31 : xe_look (xc 237) 31 = some (.bipush 41, 2, 0, 0, 0) := by decide +kernel
theorem yri_33 : xe_look (xc 237) 33 = some (.if_icmp .ne 19, 3, 0, 0, 0) := by decide +kernel
theorem yri_36 : xe_look (xc 237) 36 = some (.aload_n 0, 1, 0, 0, 0) := by decide +kernel
theorem yri_37 : xe_look (xc 237) 37 = some (.getfield 265, 3, 12, 26, 1139) := by decide +kernel
theorem yri_40 : xe_look (xc 237) 40 = some (.ifCond .le 12, 3, 0, 0, 0) := by decide +kernel
theorem yri_43 : xe_look (xc 237) 43 = some (.aload_n 0, 1, 0, 0, 0) := by decide +kernel
theorem yri_44 : xe_look (xc 237) 44 = some (.invokevirtual 274, 3, 0, 175, 1267) := by decide +kernel
theorem yri_47 : xe_look (xc 237) 47 = some (.ifCond .ne (-20), 3, 0, 0, 0) := by decide +kernel
theorem yri_50 : xe_look (xc 237) 50 = some (.iconst 0, 1, 0, 0, 0) := by decide +kernel
theorem yri_51 : xe_look (xc 237) 51 = some (.ireturn, 1, 0, 0, 0) := by decide +kernel
theorem yri_52 : xe_look (xc 237) 52 = some (.iconst 1, 1, 0, 0, 0) := by decide +kernel
theorem yri_53 : xe_look (xc 237) 53 = some (.ireturn, 1, 0, 0, 0) := by decide +kernel
theorem yty_45 : xe_look (xc 264) 45 = some (.iload_n 2, 1, 0, 0, 0) := by decide +kernel
theorem yty_46 : xe_look (xc 264) 46 = some (.ifCond .eq 46, 3, 0, 0, 0) := by decide +kernel
theorem yty_49 : xe_look (xc 264) 49 = some (.aload_n 0, 1, 0, 0, 0) := by decide +kernel
theorem yty_50 : xe_look (xc 264) 50 = some (.getfield 242, 3, 12, 18, 1135) := by decide +kernel
theorem yty_53 : xe_look (xc 264) 53 = some (.aload_n 0, 1, 0, 0, 0) := by decide +kernel
theorem yty_54 : xe_look (xc 264) 54 = some (.getfield 277, 3, 12, 19, 1190) := by decide +kernel
theorem yty_57 : xe_look (xc 264) 57 = some (.if_icmp .lt 10, 3, 0, 0, 0) := by decide +kernel
theorem yty_60 : xe_look (xc 264) 60 = some (.aload_n 0, 1, 0, 0, 0) := by decide +kernel
theorem yty_61 : xe_look (xc 264) 61 = some (.getfield 265, 3, 12, 26, 1139) := by decide +kernel
theorem yty_64 : xe_look (xc 264) 64 = some (.ifCond .le 28, 3, 0, 0, 0) := by decide +kernel
theorem yty_67 : xe_look (xc 264) 67 = some (.aload_n 0, 1, 0, 0, 0) := by decide +kernel
theorem yty_68 : xe_look (xc 264) 68 = some (.bipush 44, 2, 0, 0, 0) := by decide +kernel
theorem yty_70 : xe_look (xc 264) 70 = some (.invokevirtual 283, 3, 0, 260, 1232) := by decide +kernel
theorem yty_73 : xe_look (xc 264) 73 = some (.ifCond .eq 14, 3, 0, 0, 0) := by decide +kernel
theorem yty_76 : xe_look (xc 264) 76 = some (.aload_n 0, 1, 0, 0, 0) := by decide +kernel
theorem yty_77 : xe_look (xc 264) 77 = some (.invokevirtual 280, 3, 0, 237, 1285) := by decide +kernel
theorem yty_80 : xe_look (xc 264) 80 = some (.ifCond .eq 7, 3, 0, 0, 0) := by decide +kernel
theorem yty_83 : xe_look (xc 264) 83 = some (.iconst 1, 1, 0, 0, 0) := by decide +kernel
theorem yty_84 : xe_look (xc 264) 84 = some (.goto 4, 3, 0, 0, 0) := by decide +kernel
theorem yty_87 : xe_look (xc 264) 87 = some (.iconst 0, 1, 0, 0, 0) := by decide +kernel
theorem yty_88 : xe_look (xc 264) 88 = some (.istore_n 2, 1, 0, 0, 0) := by decide +kernel
theorem yty_89 : xe_look (xc 264) 89 = some (.goto (-44), 3, 0, 0, 0) := by decide +kernel
def tSt : List (Int × Int) → tC → tC → Prop
  | [], _, _ => True
  | q :: l, gf, ga => (gf l.length = q.1 ∧ ga l.length = q.2) ∧ (0 ≤ q.1 ∧ q.1 ≤ 120) ∧ tSt l gf ga
/-- as it stands within the reading -/
def nSt (g0 : pH) (g : pH) (p m : Int) (c : tC) (σ : List (Int × Int)) : Prop := ∃ (ft u : Int) (c' gf ga : tC), nS g0 g p m (σ.length : Int) ft u c' gf ga ∧ (∀ j : Nat, (j : Int) < m → c j = c' j ∧ 0 ≤ c' j ∧ c' j ≤ 31) ∧ tSt σ gf ga
def mAt (d : Nat) (P : Option pv × pH → Prop) (g : pH) : Prop := ∀ lv : List (Nat × pv), px_lg lv 0 = some (pvR 196) → px_lg lv 2 = some (oI 1) → t_X d 264 45 lv [] g P
def mZt (d : Nat) (P : Option pv × pH → Prop) (g : pH) : Prop := ∀ lv : List (Nat × pv), px_lg lv 0 = some (pvR 196) → px_lg lv 2 = some (oI 0) → t_X d 264 45 lv [] g P
def mFi (g0 : pH) (d : Nat) (P : Option pv × pH → Prop) (f : Int) : Prop := ∀ (g : pH) (p m s u : Int) (c gf ga : tC), nS g0 g p m s f u c gf ga → mZt d P g
def mQo (g0 : pH) (d : Nat) (P Q : Option pv × pH → Prop) : Prop := (∀ g : pH, mAt d P g → Q (some (oI 1), g)) ∧ ∀ g : pH, mZt d P g → Q (some (oI 0), g)
def mCl (g0 : pH) (d : Nat) (P : Option pv × pH → Prop) (p m : Int) (c : tC) (σ : List (Int × Int)) : Prop := ∀ Q, mQo g0 d P Q → ∀ (g : pH) (lv : List (Nat × pv)), nSt g0 g p m c σ → px_lg lv 0 = some (pvR 196) → t_X (d - 1) 237 27 lv [] g Q
def mBe (g0 : pH) (d : Nat) (P : Option pv × pH → Prop) (p m : Int) (c : tC) (σ : List (Int × Int)) : Prop := ∀ Q, mQo g0 d P Q → ∀ (g : pH) (lv : List (Nat × pv)), nSt g0 g p m c σ → px_lg lv 0 = some (pvR 196) → t_X (d - 1) 237 0 lv [] g Q
theorem tSt_u : ∀ {l : List (Int × Int)} {gf ga : tC} {k : Nat} {x y : Int}, l.length ≤ k → tSt l gf ga → tSt l (updI gf k x) (updI ga k y)
  | [], _, _, _, _, _, _, _ => trivial
  | q :: l, gf, ga, k, x, y, hk, h => by
    have hk : l.length + 1 ≤ k := hk
    refine ⟨⟨?_, ?_⟩, h.2.1, tSt_u (l := l) (by omega) h.2.2⟩
    · unfold updI
      rw [if_neg (by omega)]
      exact h.1.1
    · unfold updI
      rw [if_neg (by omega)]
      exact h.1.2
set_option maxHeartbeats 2000000 in
theorem m_r1 {d : Nat} {g0 : pH} {B : tC} {n : Int} (hB : nB g0 B n) (hd : 5 ≤ d) {P : Option pv × pH → Prop} {p m : Int} {c : tC} {r : tR} (hp : 0 ≤ p ∧ p ≤ n) (hm : 0 ≤ m ∧ m ≤ 60) (hh : tH B n p ≠ 40) (hr : tRo (tH B n) p m c r) {σ : List (Int × Int)} (hF : ∀ f, r = .inl f → mFi g0 d P f) (hO : ∀ p1 m1 c1, r = .inr (p1, m1, c1) → mCl g0 d P p1 m1 c1 σ) : mBe g0 d P p m c σ := by
  intro Q hQ g lv hg l0
  obtain ⟨ft, u, cc, gf, ga, hS, hc, hT⟩ := hg
  have hl9 : (σ.length : Int) ≤ 2147483647 := by have x9 := cF_b g 196 26; rw [show cF g 196 26 = (σ.length : Int) from S_f hS 2 (Nat.le_of_ble_eq_true rfl)] at x9; exact x9.2
  have hn0 := hB.2.2.1
  have hn1 := hB.2.2.2
  have hH : ∀ q, 0 ≤ q → -1 ≤ tH B n q ∧ tH B n q ≤ 255 := fun q hq => tH_b (tp_b hB.2.1) (by omega) hq
  refine t_0 yri_0 rfl (ld_a l0) ?_
  refine t_3 yri_1 rfl (ar := ([pvR 196], [])) (pcal_w (as := []) rfl rfl rfl eo_196) ⟨by omega, Nat.le_of_ble_eq_true rfl, Nat.le_of_ble_eq_true rfl, rfl⟩ ?_
  refine nh_run hB hS (by omega) ?_ rfl
  have b1 := hH p (by omega)
  have z1 := tH_n (B := B) (n := n) (p := p)
  show t_X (d - 1) 237 4 lv [oI (tH B n p)] g Q
  refine t_0 yri_4 rfl (pq_b (by decide)) ?_
  refine tb_ne yri_6 (by decide) ⟨by omega, by omega⟩ ⟨by omega, by omega⟩ (fun c2 => ?_) (fun c2 => absurd c2 (by omega))
  show t_X (d - 1) 237 18 lv [] g Q
  refine t_0 yri_18 rfl (ld_a l0) ?_
  refine t_3 yri_19 rfl (ar := ([pvR 196], [])) (pcal_w (as := []) rfl rfl rfl eo_196) ⟨by omega, Nat.le_of_ble_eq_true rfl, Nat.le_of_ble_eq_true rfl, rfl⟩ ?_
  refine nrx_run (by omega) hB hS ⟨by omega, by omega⟩ hm (fun j hj => (hc j hj).2) (fun g3 f3 q3 m3 s3 u3 c3 e3 hS3 t3 => ?_) (fun g3 q3 m3 u3 c3 hS3 t3 w3 => ?_) rfl
  · show t_X (d - 1) 237 22 lv [oI 0] g3 Q
    refine tz_ne yri_22 (by decide) ⟨by omega, by omega⟩ (fun c4 => absurd c4 (by omega)) (fun c4 => ?_)
    show t_X (d - 1) 237 25 lv [] g3 Q
    refine t_0 yri_25 rfl rfl ?_
    refine t_5 yri_26 rfl rfl ?_
    have x := tRo_d (fun j hj => (hc j hj).1) hr t3 hm.1
    rcases r with f | ⟨p1, m1, c1⟩
    · have x : f = f3 := x
      subst x
      exact hQ.2 _ (hF _ rfl _ _ _ _ _ _ _ _ hS3)
    · exact x.elim
  · show t_X (d - 1) 237 22 lv [oI 1] g3 Q
    refine tz_ne yri_22 (by decide) ⟨by omega, by omega⟩ (fun c5 => ?_) (fun c5 => absurd c5 (by omega))
    show t_X (d - 1) 237 27 lv [] g3 Q
    have x := tRo_d (fun j hj => (hc j hj).1) hr t3 hm.1
    rcases r with f | ⟨p1, m1, c1⟩
    · exact x.elim
    · obtain ⟨x1, x2, x3⟩ := x
      subst x1; subst x2
      exact hO _ _ _ rfl _ hQ _ _ ⟨_, _, _, _, _, hS3, fun j hj => ⟨x3 j hj, w3 j hj⟩, hT⟩ l0
set_option maxHeartbeats 2000000 in
theorem m_r2 {d : Nat} {g0 : pH} {B : tC} {n : Int} (hB : nB g0 B n) (hd : 5 ≤ d) {P : Option pv × pH → Prop} {p m : Int} {c : tC} (hp : 0 ≤ p ∧ p ≤ n) (hm : 0 ≤ m ∧ m ≤ 60) (hh : tH B n p = 40) {σ : List (Int × Int)} (hσ : σ.length ≤ 4) (hF : σ.length = 4 → mFi g0 d P (-5000 - p)) (hO : σ.length < 4 → mBe g0 d P (p + 1) m c ((p, m) :: σ)) : mBe g0 d P p m c σ := by
  intro Q hQ g lv hg l0
  obtain ⟨ft, u, cc, gf, ga, hS, hc, hT⟩ := hg
  have hl9 : (σ.length : Int) ≤ 2147483647 := by have x9 := cF_b g 196 26; rw [show cF g 196 26 = (σ.length : Int) from S_f hS 2 (Nat.le_of_ble_eq_true rfl)] at x9; exact x9.2
  have hn0 := hB.2.2.1
  have hn1 := hB.2.2.2
  have hH : ∀ q, 0 ≤ q → -1 ≤ tH B n q ∧ tH B n q ≤ 255 := fun q hq => tH_b (tp_b hB.2.1) (by omega) hq
  refine t_0 yri_0 rfl (ld_a l0) ?_
  refine t_3 yri_1 rfl (ar := ([pvR 196], [])) (pcal_w (as := []) rfl rfl rfl eo_196) ⟨by omega, Nat.le_of_ble_eq_true rfl, Nat.le_of_ble_eq_true rfl, rfl⟩ ?_
  refine nh_run hB hS (by omega) ?_ rfl
  have b1 := hH p (by omega)
  have z1 := tH_n (B := B) (n := n) (p := p)
  show t_X (d - 1) 237 4 lv [oI (tH B n p)] g Q
  refine t_0 yri_4 rfl (pq_b (by decide)) ?_
  refine tb_ne yri_6 (by decide) ⟨by omega, by omega⟩ ⟨by omega, by omega⟩ (fun c2 => absurd c2 (by omega)) (fun c2 => ?_)
  show t_X (d - 1) 237 9 lv [] g Q
  refine t_0 yri_9 rfl (ld_a l0) ?_
  refine t_3 yri_10 rfl (ar := ([pvR 196], [])) (pcal_w (as := []) rfl rfl rfl eo_196) ⟨by omega, Nat.le_of_ble_eq_true rfl, Nat.le_of_ble_eq_true rfl, rfl⟩ ?_
  refine no_run hB hS ⟨by omega, by omega⟩ hm ⟨by omega, by omega⟩ (fun t3 g3 hS3 => ?_) (fun t3 g3 hS3 => ?_) rfl (by omega)
  · show t_X (d - 1) 237 13 lv [oI 0] g3 Q
    refine tz_ne yri_13 (by decide) ⟨by omega, by omega⟩ (fun c4 => absurd c4 (by omega)) (fun c4 => ?_)
    show t_X (d - 1) 237 16 lv [] g3 Q
    refine t_0 yri_16 rfl rfl ?_
    refine t_5 yri_17 rfl rfl ?_
    exact hQ.2 _ (hF (by omega) _ _ _ _ _ _ _ _ hS3)
  · show t_X (d - 1) 237 13 lv [oI 1] g3 Q
    refine tz_ne yri_13 (by decide) ⟨by omega, by omega⟩ (fun c5 => ?_) (fun c5 => absurd c5 (by omega))
    show t_X (d - 1) 237 0 lv [] g3 Q
    refine hO (by omega) _ hQ _ _ ⟨ft, u, cc, _, _, (show nS g0 g3 (p + 1) m (((p, m) :: σ).length : Int) ft u cc _ _ by rw [show (((p, m) :: σ).length : Int) = (σ.length : Int) + 1 from rfl]; exact hS3), hc, ⟨?_, ?_⟩, ⟨hp.1, by omega⟩, tSt_u (Nat.le_refl _) hT⟩ l0
    · show updI gf _ p σ.length = p
      unfold updI
      rw [if_pos (by omega)]
    · show updI ga _ m σ.length = m
      unfold updI
      rw [if_pos (by omega)]
theorem m_c0 {d : Nat} {g0 : pH} {B : tC} {n : Int} (hB : nB g0 B n) (hd : 5 ≤ d) {P : Option pv × pH → Prop} {p m : Int} {c : tC} (hp : 0 ≤ p ∧ p ≤ n) {σ : List (Int × Int)} (hh : tH B n p ≠ 41 ∨ σ.length = 0) (hA : ∀ g, nSt g0 g p m c σ → mAt d P g) : mCl g0 d P p m c σ := by
  intro Q hQ g lv hg l0
  obtain ⟨ft, u, cc, gf, ga, hS, hc, hT⟩ := hg
  have hl9 : (σ.length : Int) ≤ 2147483647 := by have x9 := cF_b g 196 26; rw [show cF g 196 26 = (σ.length : Int) from S_f hS 2 (Nat.le_of_ble_eq_true rfl)] at x9; exact x9.2
  have hn0 := hB.2.2.1
  have hn1 := hB.2.2.2
  have hH : ∀ q, 0 ≤ q → -1 ≤ tH B n q ∧ tH B n q ≤ 255 := fun q hq => tH_b (tp_b hB.2.1) (by omega) hq
  refine t_0 yri_27 rfl (ld_a l0) ?_
  refine t_3 yri_28 rfl (ar := ([pvR 196], [])) (pcal_w (as := []) rfl rfl rfl eo_196) ⟨by omega, Nat.le_of_ble_eq_true rfl, Nat.le_of_ble_eq_true rfl, rfl⟩ ?_
  refine nh_run hB hS (by omega) ?_ rfl
  have b1 := hH p (by omega)
  have z1 := tH_n (B := B) (n := n) (p := p)
  show t_X (d - 1) 237 31 lv [oI (tH B n p)] g Q
  refine t_0 yri_31 rfl (pq_b (by decide)) ?_
  refine tb_ne yri_33 (by decide) ⟨by omega, by omega⟩ ⟨by omega, by omega⟩ (fun c2 => ?_) (fun c2 => ?_)
  · show t_X (d - 1) 237 52 lv [] g Q
    refine t_0 yri_52 rfl rfl ?_
    refine t_5 yri_53 rfl rfl ?_
    exact hQ.1 _ (hA _ ⟨ft, u, cc, gf, ga, hS, hc, hT⟩)
  · show t_X (d - 1) 237 36 lv [] g Q
    refine t_0 yri_36 rfl (ld_a l0) ?_
    refine t_0 yri_37 rfl (pq_cv eo_196 rfl (show cF g 196 26 = (σ.length : Int) from S_f hS 2 (Nat.le_of_ble_eq_true rfl))) ?_
    show t_X (d - 1) 237 40 lv [oI ((σ.length : Int))] g Q
    refine tz_le yri_40 (by decide) ⟨by omega, by omega⟩ (fun c3 => ?_) (fun c3 => absurd c3 (by omega))
    show t_X (d - 1) 237 52 lv [] g Q
    refine t_0 yri_52 rfl rfl ?_
    refine t_5 yri_53 rfl rfl ?_
    exact hQ.1 _ (hA _ ⟨ft, u, cc, gf, ga, hS, hc, hT⟩)
set_option maxHeartbeats 2000000 in
theorem m_c1 {d : Nat} {g0 : pH} {B : tC} {n : Int} (hB : nB g0 B n) (hd : 5 ≤ d) {P : Option pv × pH → Prop} {p m : Int} {c : tC} {r : tR} (hp : 0 ≤ p ∧ p ≤ n) {q : Int × Int} (hm1 : 0 ≤ q.2 ∧ q.2 < m ∧ m ≤ 60) {σ : List (Int × Int)} (hσ : σ.length < 4) (hh : tH B n p = 41) (hr : tEn (tH B n) q.1 q.2 p m c r) (hF : ∀ f, r = .inl f → mFi g0 d P f) (hO : ∀ p1 m1 c1, r = .inr (p1, m1, c1) → mCl g0 d P p1 m1 c1 σ) : mCl g0 d P p m c (q :: σ) := by
  intro Q hQ g lv hg l0
  obtain ⟨ft, u, cc, gf, ga, hS, hc, hT⟩ := hg
  have hpp := hT.2.1
  have hl : ((q :: σ).length : Int) = (σ.length : Int) + 1 := by rw [List.length_cons]; omega
  have eix : (((q :: σ).length : Int) - 1).toNat = σ.length := by omega
  have hl9 : ((q :: σ).length : Int) ≤ 2147483647 := by have x9 := cF_b g 196 26; rw [show cF g 196 26 = ((q :: σ).length : Int) from S_f hS 2 (Nat.le_of_ble_eq_true rfl)] at x9; exact x9.2
  have hn0 := hB.2.2.1
  have hn1 := hB.2.2.2
  have hH : ∀ q, 0 ≤ q → -1 ≤ tH B n q ∧ tH B n q ≤ 255 := fun q hq => tH_b (tp_b hB.2.1) (by omega) hq
  refine t_0 yri_27 rfl (ld_a l0) ?_
  refine t_3 yri_28 rfl (ar := ([pvR 196], [])) (pcal_w (as := []) rfl rfl rfl eo_196) ⟨by omega, Nat.le_of_ble_eq_true rfl, Nat.le_of_ble_eq_true rfl, rfl⟩ ?_
  refine nh_run hB hS (by omega) ?_ rfl
  have b1 := hH p (by omega)
  have z1 := tH_n (B := B) (n := n) (p := p)
  show t_X (d - 1) 237 31 lv [oI (tH B n p)] g Q
  refine t_0 yri_31 rfl (pq_b (by decide)) ?_
  refine tb_ne yri_33 (by decide) ⟨by omega, by omega⟩ ⟨by omega, by omega⟩ (fun c2 => absurd c2 (by omega)) (fun c2 => ?_)
  show t_X (d - 1) 237 36 lv [] g Q
  refine t_0 yri_36 rfl (ld_a l0) ?_
  refine t_0 yri_37 rfl (pq_cv eo_196 rfl (show cF g 196 26 = ((q :: σ).length : Int) from S_f hS 2 (Nat.le_of_ble_eq_true rfl))) ?_
  show t_X (d - 1) 237 40 lv [oI (((q :: σ).length : Int))] g Q
  refine tz_le yri_40 (by decide) ⟨by omega, by omega⟩ (fun c3 => absurd c3 (by omega)) (fun c3 => ?_)
  show t_X (d - 1) 237 43 lv [] g Q
  refine t_0 yri_43 rfl (ld_a l0) ?_
  refine t_3 yri_44 rfl (ar := ([pvR 196], [])) (pcal_w (as := []) rfl rfl rfl eo_196) ⟨by omega, Nat.le_of_ble_eq_true rfl, Nat.le_of_ble_eq_true rfl, rfl⟩ ?_
  refine nc_run (by omega) hB hS ⟨by omega, by omega⟩ hh hm1 hpp ⟨by omega, by omega⟩ (by rw [eix]; exact hT.1.1) (by rw [eix]; exact hT.1.2) (fun j hj => (hc j hj).2) (fun g4 f4 q4 s4 u4 hS4 t4 => ?_) (fun g4 m4 c4 hS4 t4 w4 => ?_) rfl
  · show t_X (d - 1) 237 47 lv [oI 0] g4 Q
    refine tz_ne yri_47 (by decide) ⟨by omega, by omega⟩ (fun c5 => absurd c5 (by omega)) (fun c5 => ?_)
    show t_X (d - 1) 237 50 lv [] g4 Q
    refine t_0 yri_50 rfl rfl ?_
    refine t_5 yri_51 rfl rfl ?_
    have x := tEn_d (fun j hj => (hc j hj).1) hr t4 ⟨hm1.1, hm1.2.1⟩
    rcases r with f | ⟨p1, m1, c1⟩
    · have x : f = f4 := x
      subst x
      exact hQ.2 _ (hF _ rfl _ _ _ _ _ _ _ _ hS4)
    · exact x.elim
  · show t_X (d - 1) 237 47 lv [oI 1] g4 Q
    refine tz_ne yri_47 (by decide) ⟨by omega, by omega⟩ (fun c6 => ?_) (fun c6 => absurd c6 (by omega))
    show t_X (d - 1) 237 27 lv [] g4 Q
    have x := tEn_d (fun j hj => (hc j hj).1) hr t4 ⟨hm1.1, hm1.2.1⟩
    rcases r with f | ⟨p1, m1, c1⟩
    · exact x.elim
    · obtain ⟨x1, x2, x3⟩ := x
      subst x1; subst x2
      exact hO _ _ _ rfl _ hQ _ _ ⟨ft, u, _, gf, ga, (by rw [show (σ.length : Int) = ((q :: σ).length : Int) - 1 by rw [List.length_cons]; omega]; exact hS4), fun j hj => ⟨x3 j hj, w4 j hj⟩, hT.2.2⟩ l0
set_option maxHeartbeats 2000000 in
theorem m_a1 {d : Nat} {g0 : pH} {B : tC} {n : Int} (hB : nB g0 B n) (hd : 5 ≤ d) {P : Option pv × pH → Prop} {p m : Int} {c : tC} (hp : 0 ≤ p ∧ p < n) {σ : List (Int × Int)} (hh : tH B n p = 44) (hBe : mBe g0 d P (p + 1) m c σ) {g : pH} (hg : nSt g0 g p m c σ) : mAt d P g := by
  intro lv l0 l2
  obtain ⟨ft, u, cc, gf, ga, hS, hc, hT⟩ := hg
  have hl9 : (σ.length : Int) ≤ 2147483647 := by have x9 := cF_b g 196 26; rw [show cF g 196 26 = (σ.length : Int) from S_f hS 2 (Nat.le_of_ble_eq_true rfl)] at x9; exact x9.2
  have hn0 := hB.2.2.1
  have hn1 := hB.2.2.2
  have hH : ∀ q, 0 ≤ q → -1 ≤ tH B n q ∧ tH B n q ≤ 255 := fun q hq => tH_b (tp_b hB.2.1) (by omega) hq
  refine t_0 yty_45 rfl (ld_i l2) ?_
  refine tz_eq yty_46 (by decide) ⟨by omega, by omega⟩ (fun c1 => absurd c1 (by omega)) (fun c1 => ?_)
  show t_X d 264 49 lv [] g P
  refine t_0 yty_49 rfl (ld_a l0) ?_
  refine t_0 yty_50 rfl (pq_cv eo_196 rfl (show cF g 196 18 = p from S_f hS 0 (Nat.le_of_ble_eq_true rfl))) ?_
  show t_X d 264 53 lv [oI (p)] g P
  refine t_0 yty_53 rfl (ld_a l0) ?_
  refine t_0 yty_54 rfl (pq_cv eo_196 rfl (ne_l hB hS : cF g 196 19 = n)) ?_
  show t_X d 264 57 lv [oI (n), oI (p)] g P
  refine tb_lt yty_57 (by decide) ⟨by omega, by omega⟩ ⟨by omega, by omega⟩ (fun c2 => ?_) (fun c2 => absurd c2 (by omega))
  show t_X d 264 67 lv [] g P
  refine t_0 yty_67 rfl (ld_a l0) ?_
  refine t_0 yty_68 rfl (pq_b (by decide)) ?_
  refine t_3 yty_70 rfl (ar := ([pvR 196, oI 44], [])) (pcal_w (as := [oI 44]) rfl rfl rfl eo_196) ⟨by omega, Nat.le_of_ble_eq_true rfl, Nat.le_of_ble_eq_true rfl, rfl⟩ ?_
  refine ntx_run (by omega) hB hS ⟨by omega, by omega⟩ (by omega) (fun t3 g3 hS3 => ?_) (fun t3 g3 hS3 => ?_) rfl rfl
  · show t_X d 264 73 lv [oI 1] g3 P
    refine tz_eq yty_73 (by decide) ⟨by omega, by omega⟩ (fun c4 => absurd c4 (by omega)) (fun c4 => ?_)
    show t_X d 264 76 lv [] g3 P
    refine t_0 yty_76 rfl (ld_a l0) ?_
    refine t_3 yty_77 rfl (ar := ([pvR 196], [])) (pcal_w (as := []) rfl rfl rfl eo_196) ⟨by omega, Nat.le_of_ble_eq_true rfl, Nat.le_of_ble_eq_true rfl, rfl⟩ ?_
    refine hBe _ ⟨fun g5 a5 => ?_, fun g5 a5 => ?_⟩ _ _ ⟨ft, u, cc, gf, ga, hS3, hc, hT⟩ rfl
    · show t_X d 264 80 lv [oI 1] g5 P
      refine tz_eq yty_80 (by decide) ⟨by omega, by omega⟩ (fun c6 => absurd c6 (by omega)) (fun c6 => ?_)
      show t_X d 264 83 lv [] g5 P
      refine t_0 yty_83 rfl rfl ?_
      refine t_1 yty_84 rfl (pb_goto (pc := 84) (by decide)) ?_
      show t_X d 264 88 lv [oI 1] g5 P
      refine t_2 yty_88 rfl (w := (px_s1 lv 2 (oI 1), [])) rfl ?_
      replace l0 : px_lg (px_s1 lv 2 (oI 1)) 0 = some (pvR 196) := s1_ne (by decide) (fun _ => rfl) l0
      have l2 : px_lg (px_s1 lv 2 (oI 1)) 2 = some (oI 1) := s1_eq
      generalize px_s1 lv 2 (oI 1) = lv7 at l0 l2 ⊢
      show t_X d 264 89 lv7 [] g5 P
      refine t_1 yty_89 rfl (pb_goto (pc := 89) (by decide)) ?_
      show t_X d 264 45 lv7 [] g5 P
      exact a5 _ l0 l2
    · show t_X d 264 80 lv [oI 0] g5 P
      refine tz_eq yty_80 (by decide) ⟨by omega, by omega⟩ (fun c8 => ?_) (fun c8 => absurd c8 (by omega))
      show t_X d 264 87 lv [] g5 P
      refine t_0 yty_87 rfl rfl ?_
      refine t_2 yty_88 rfl (w := (px_s1 lv 2 (oI 0), [])) rfl ?_
      replace l0 : px_lg (px_s1 lv 2 (oI 0)) 0 = some (pvR 196) := s1_ne (by decide) (fun _ => rfl) l0
      have l2 : px_lg (px_s1 lv 2 (oI 0)) 2 = some (oI 0) := s1_eq
      generalize px_s1 lv 2 (oI 0) = lv9 at l0 l2 ⊢
      show t_X d 264 89 lv9 [] g5 P
      refine t_1 yty_89 rfl (pb_goto (pc := 89) (by decide)) ?_
      show t_X d 264 45 lv9 [] g5 P
      exact a5 _ l0 l2
  · show t_X d 264 73 lv [oI 0] g3 P
    refine tz_eq yty_73 (by decide) ⟨by omega, by omega⟩ (fun c10 => ?_) (fun c10 => absurd c10 (by omega))
    show t_X d 264 87 lv [] g3 P
    refine t_0 yty_87 rfl rfl ?_
    refine t_2 yty_88 rfl (w := (px_s1 lv 2 (oI 0), [])) rfl ?_
    replace l0 : px_lg (px_s1 lv 2 (oI 0)) 0 = some (pvR 196) := s1_ne (by decide) (fun _ => rfl) l0
    have l2 : px_lg (px_s1 lv 2 (oI 0)) 2 = some (oI 0) := s1_eq
    generalize px_s1 lv 2 (oI 0) = lv11 at l0 l2 ⊢
    show t_X d 264 89 lv11 [] g3 P
    refine t_1 yty_89 rfl (pb_goto (pc := 89) (by decide)) ?_
    show t_X d 264 45 lv11 [] g3 P
    exact absurd hh t3
set_option maxHeartbeats 2000000 in
theorem m_a0 {d : Nat} {g0 : pH} {B : tC} {n : Int} (hB : nB g0 B n) (hd : 5 ≤ d) {P : Option pv × pH → Prop} {p m : Int} {c : tC} (hp : 0 ≤ p ∧ p ≤ n) {σ : List (Int × Int)} (hh : tH B n p ≠ 44) (hl : p < n ∨ 0 < σ.length) (hF : mFi g0 d P (-1000 - p)) {g : pH} (hg : nSt g0 g p m c σ) : mAt d P g := by
  intro lv l0 l2
  obtain ⟨ft, u, cc, gf, ga, hS, hc, hT⟩ := hg
  have hl9 : (σ.length : Int) ≤ 2147483647 := by have x9 := cF_b g 196 26; rw [show cF g 196 26 = (σ.length : Int) from S_f hS 2 (Nat.le_of_ble_eq_true rfl)] at x9; exact x9.2
  have hn0 := hB.2.2.1
  have hn1 := hB.2.2.2
  have hH : ∀ q, 0 ≤ q → -1 ≤ tH B n q ∧ tH B n q ≤ 255 := fun q hq => tH_b (tp_b hB.2.1) (by omega) hq
  refine t_0 yty_45 rfl (ld_i l2) ?_
  refine tz_eq yty_46 (by decide) ⟨by omega, by omega⟩ (fun c1 => absurd c1 (by omega)) (fun c1 => ?_)
  show t_X d 264 49 lv [] g P
  refine t_0 yty_49 rfl (ld_a l0) ?_
  refine t_0 yty_50 rfl (pq_cv eo_196 rfl (show cF g 196 18 = p from S_f hS 0 (Nat.le_of_ble_eq_true rfl))) ?_
  show t_X d 264 53 lv [oI (p)] g P
  refine t_0 yty_53 rfl (ld_a l0) ?_
  refine t_0 yty_54 rfl (pq_cv eo_196 rfl (ne_l hB hS : cF g 196 19 = n)) ?_
  show t_X d 264 57 lv [oI (n), oI (p)] g P
  refine tb_lt yty_57 (by decide) ⟨by omega, by omega⟩ ⟨by omega, by omega⟩ (fun c2 => ?_) (fun c2 => ?_)
  · show t_X d 264 67 lv [] g P
    refine t_0 yty_67 rfl (ld_a l0) ?_
    refine t_0 yty_68 rfl (pq_b (by decide)) ?_
    refine t_3 yty_70 rfl (ar := ([pvR 196, oI 44], [])) (pcal_w (as := [oI 44]) rfl rfl rfl eo_196) ⟨by omega, Nat.le_of_ble_eq_true rfl, Nat.le_of_ble_eq_true rfl, rfl⟩ ?_
    refine ntx_run (by omega) hB hS ⟨by omega, by omega⟩ (by omega) (fun t3 => absurd t3 hh) (fun t3 g3 hS3 => ?_) rfl rfl
    show t_X d 264 73 lv [oI 0] g3 P
    refine tz_eq yty_73 (by decide) ⟨by omega, by omega⟩ (fun c4 => ?_) (fun c4 => absurd c4 (by omega))
    show t_X d 264 87 lv [] g3 P
    refine t_0 yty_87 rfl rfl ?_
    refine t_2 yty_88 rfl (w := (px_s1 lv 2 (oI 0), [])) rfl ?_
    replace l0 : px_lg (px_s1 lv 2 (oI 0)) 0 = some (pvR 196) := s1_ne (by decide) (fun _ => rfl) l0
    have l2 : px_lg (px_s1 lv 2 (oI 0)) 2 = some (oI 0) := s1_eq
    generalize px_s1 lv 2 (oI 0) = lv5 at l0 l2 ⊢
    show t_X d 264 89 lv5 [] g3 P
    refine t_1 yty_89 rfl (pb_goto (pc := 89) (by decide)) ?_
    show t_X d 264 45 lv5 [] g3 P
    exact hF _ _ _ _ _ _ _ _ hS3 _ l0 l2
  · show t_X d 264 60 lv [] g P
    refine t_0 yty_60 rfl (ld_a l0) ?_
    refine t_0 yty_61 rfl (pq_cv eo_196 rfl (show cF g 196 26 = (σ.length : Int) from S_f hS 2 (Nat.le_of_ble_eq_true rfl))) ?_
    show t_X d 264 64 lv [oI ((σ.length : Int))] g P
    refine tz_le yty_64 (by decide) ⟨by omega, by omega⟩ (fun c6 => absurd c6 (by omega)) (fun c6 => ?_)
    show t_X d 264 67 lv [] g P
    refine t_0 yty_67 rfl (ld_a l0) ?_
    refine t_0 yty_68 rfl (pq_b (by decide)) ?_
    refine t_3 yty_70 rfl (ar := ([pvR 196, oI 44], [])) (pcal_w (as := [oI 44]) rfl rfl rfl eo_196) ⟨by omega, Nat.le_of_ble_eq_true rfl, Nat.le_of_ble_eq_true rfl, rfl⟩ ?_
    refine ntx_run (by omega) hB hS ⟨by omega, by omega⟩ (by omega) (fun t7 => absurd t7 hh) (fun t7 g7 hS7 => ?_) rfl rfl
    show t_X d 264 73 lv [oI 0] g7 P
    refine tz_eq yty_73 (by decide) ⟨by omega, by omega⟩ (fun c8 => ?_) (fun c8 => absurd c8 (by omega))
    show t_X d 264 87 lv [] g7 P
    refine t_0 yty_87 rfl rfl ?_
    refine t_2 yty_88 rfl (w := (px_s1 lv 2 (oI 0), [])) rfl ?_
    replace l0 : px_lg (px_s1 lv 2 (oI 0)) 0 = some (pvR 196) := s1_ne (by decide) (fun _ => rfl) l0
    have l2 : px_lg (px_s1 lv 2 (oI 0)) 2 = some (oI 0) := s1_eq
    generalize px_s1 lv 2 (oI 0) = lv9 at l0 l2 ⊢
    show t_X d 264 89 lv9 [] g7 P
    refine t_1 yty_89 rfl (pb_goto (pc := 89) (by decide)) ?_
    show t_X d 264 45 lv9 [] g7 P
    exact hF _ _ _ _ _ _ _ _ hS7 _ l0 l2
def mI (H : Int → Int) (g0 : pH) (d : Nat) (P : Option pv × pH → Prop) (b : Bool) (δ : Nat) (p m : Int) (c : tC) (r : tR) : Prop := match r with
  | .inl f => mFi g0 d P f → ∀ σ : List (Int × Int), σ.length = δ → δ ≤ 4 → mBe g0 d P p m c σ
  | .inr (p1, m1, c1) => (b = true → H p1 ≠ 44) ∧ ∀ σ : List (Int × Int), σ.length = δ → δ ≤ 4 → mCl g0 d P p1 m1 c1 σ → mBe g0 d P p m c σ
theorem m_cl {d : Nat} {g0 : pH} {B : tC} {n : Int} (hB : nB g0 B n) (hd : 5 ≤ d) {P : Option pv × pH → Prop} : tCl (tH B n) n (mI (tH B n) g0 d P true) (mI (tH B n) g0 d P false) := by
  have hn0 := hB.2.2.1
  have hn1 := hB.2.2.2
  refine ⟨?_, ?_, ?_, ?_, ?_, ?_, ?_⟩
  · intro δ p m c r h1 h2 h3
    rcases r with f | ⟨p1, m1, c1⟩
    · intro hF σ hσ h4
      exact m_r1 hB hd (r := .inl f) ⟨h1.1, h1.2.1⟩ h1.2.2 h2 h3 (fun f' e => by cases e; exact hF) (fun _ _ _ e => by cases e)
    · refine ⟨(fun z => by cases z), fun σ hσ h4 hC => ?_⟩
      exact m_r1 hB hd (r := .inr (p1, m1, c1)) ⟨h1.1, h1.2.1⟩ h1.2.2 h2 h3 (fun f' e => by cases e) (fun _ _ _ e => by cases e; exact hC)
  · intro δ p m c h1 h2 h3 hF σ hσ h4
    exact m_r2 hB hd ⟨h1.1, h1.2.1⟩ h1.2.2 h2 (by omega) (fun _ => hF) (fun z => by omega)
  · intro δ p m c f h1 h2 h3 h4 hF σ hσ h5
    exact m_r2 hB hd ⟨h1.1, by omega⟩ h1.2.2 h2 (by omega) (fun z => by omega) (fun _ => h4 hF ((p, m) :: σ) (by rw [List.length_cons, hσ]) (by omega))
  · intro δ p m c p1 m1 c1 r h1 h2 h3 h4 h5
    obtain ⟨⟨h1, h6, h7, h8, h9, h10⟩, h11⟩ := h1
    have hpn : p < n := tH_n (B := B) (by omega)
    have main : ∀ σ : List (Int × Int), σ.length = δ → (∀ f, r = .inl f → mFi g0 d P f) → (∀ p2 m2 c2, r = .inr (p2, m2, c2) → mCl g0 d P p2 m2 c2 σ) → mBe g0 d P p m c σ := by
      intro σ hσ hF hO
      refine m_r2 hB hd ⟨h11, by omega⟩ ⟨h8, by omega⟩ h2 (by omega) (fun z => by omega) (fun _ => h4.2 ((p, m) :: σ) (by rw [List.length_cons, hσ]) (by omega) ?_)
      by_cases q : tH B n p1 = 41
      · exact m_c1 hB hd (q := (p, m)) ⟨by omega, h7⟩ ⟨h8, h9, h10⟩ (by omega) q h5 hF hO
      · refine m_c0 hB hd ⟨by omega, h7⟩ (Or.inl q) (fun g hg => m_a0 hB hd ⟨by omega, h7⟩ (h4.1 rfl) (Or.inr (by rw [List.length_cons]; omega)) (hF _ ?_) hg)
        rcases h5 with ⟨x1, x2⟩ | ⟨x1, -⟩ | ⟨x1, -⟩
        · exact x2
        · exact absurd x1 q
        · exact absurd x1 q
    rcases r with f | ⟨p2, m2, c2⟩
    · intro hF σ hσ h12
      exact main σ hσ (fun f' e => by cases e; exact hF) (fun _ _ _ e => by cases e)
    · refine ⟨(fun z => by cases z), fun σ hσ h12 hC => ?_⟩
      exact main σ hσ (fun f' e => by cases e) (fun _ _ _ e => by cases e; exact hC)
  · intro δ p m c f h1
    exact h1
  · intro δ p m c p1 m1 c1 h1 h2 h3
    exact ⟨fun _ => h3, h2.2⟩
  · intro δ p m c p1 m1 c1 r h1 h2 h3 h4
    obtain ⟨h5, h6, h7, h8, h9, h10⟩ := h1
    have hpn : p1 < n := tH_n (B := B) (by omega)
    have main : ∀ σ : List (Int × Int), σ.length = δ → δ ≤ 4 → mBe g0 d P (p1 + 1) m1 c1 σ → mBe g0 d P p m c σ := fun σ hσ h11 hBe => h2.2 σ hσ h11 (m_c0 hB hd ⟨by omega, h7⟩ (Or.inl (by omega)) (fun g hg => m_a1 hB hd ⟨by omega, hpn⟩ h3 hBe hg))
    rcases r with f | ⟨p2, m2, c2⟩
    · intro hF σ hσ h11
      exact main σ hσ h11 (h4 hF σ hσ h11)
    · exact ⟨h4.1, fun σ hσ h11 hC => main σ hσ h11 (h4.2 σ hσ h11 hC)⟩
