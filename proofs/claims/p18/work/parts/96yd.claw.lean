/-! class: the law's text, exactly: clauses (printed by wip/e2/v3.py) -/
theorem vcc_0 : xe_look (xc 32) 0 = some (.aload_n 0, 1, 0, 0, 0) := by decide +kernel
theorem vcc_1 : xe_look (xc 32) 1 = some (.getfield 33, 3, 3, 0, 835) := by decide +kernel
theorem vcc_4 : xe_look (xc 32) 4 = some (.bipush 16, 2, 0, 0, 0) := by decide +kernel
theorem vcc_6 : xe_look (xc 32) 6 = some (.if_icmp .ge 26, 3, 0, 0, 0) := by decide +kernel
theorem vcc_9 : xe_look (xc 32) 9 = some (.aload_n 0, 1, 0, 0, 0) := by decide +kernel
theorem vcc_10 : xe_look (xc 32) 10 = some (.getfield 27, 3, 3, 8, 837) := by decide +kernel
theorem vcc_13 : xe_look (xc 32) 13 = some (.aload_n 0, 1, 0, 0, 0) := by decide +kernel
theorem vcc_14 : xe_look (xc 32) 14 = some (.getfield 33, 3, 3, 0, 835) := by decide +kernel
theorem vcc_17 : xe_look (xc 32) 17 = some (.aload_n 0, 1, 0, 0, 0) := by decide +kernel
theorem vcc_18 : xe_look (xc 32) 18 = some (.getfield 37, 3, 3, 1, 836) := by decide +kernel
theorem vcc_21 : xe_look (xc 32) 21 = some (.iastore, 1, 0, 0, 0) := by decide +kernel
theorem vcc_22 : xe_look (xc 32) 22 = some (.aload_n 0, 1, 0, 0, 0) := by decide +kernel
theorem vcc_23 : xe_look (xc 32) 23 = some (.dup, 1, 0, 0, 0) := by decide +kernel
theorem vcc_24 : xe_look (xc 32) 24 = some (.getfield 33, 3, 3, 0, 835) := by decide +kernel
theorem vcc_27 : xe_look (xc 32) 27 = some (.iconst 1, 1, 0, 0, 0) := by decide +kernel
theorem vcc_28 : xe_look (xc 32) 28 = some (.iadd, 1, 0, 0, 0) := by decide +kernel
theorem vcc_29 : xe_look (xc 32) 29 = some (.putfield 33, 3, 3, 0, 835) := by decide +kernel
theorem vcc_32 : xe_look (xc 32) 32 = some (.return_, 1, 0, 0, 0) := by decide +kernel
theorem vcl_0 : xe_look (xc 47) 0 = some (.aload_n 0, 1, 0, 0, 0) := by decide +kernel
theorem vcl_1 : xe_look (xc 47) 1 = some (.invokevirtual 50, 3, 0, 56, 851) := by decide +kernel
theorem vcl_4 : xe_look (xc 47) 4 = some (.istore_n 1, 1, 0, 0, 0) := by decide +kernel
theorem vcl_5 : xe_look (xc 47) 5 = some (.iload_n 1, 1, 0, 0, 0) := by decide +kernel
theorem vcl_6 : xe_look (xc 47) 6 = some (.iconst (-1), 1, 0, 0, 0) := by decide +kernel
theorem vcl_7 : xe_look (xc 47) 7 = some (.if_icmp .eq 13, 3, 0, 0, 0) := by decide +kernel
theorem vcl_10 : xe_look (xc 47) 10 = some (.ldc 56, 2, 1, 0, 0) := by decide +kernel
theorem vcl_12 : xe_look (xc 47) 12 = some (.iload_n 1, 1, 0, 0, 0) := by decide +kernel
theorem vcl_13 : xe_look (xc 47) 13 = some (.i2c, 1, 0, 0, 0) := by decide +kernel
theorem vcl_14 : xe_look (xc 47) 14 = some (.invokevirtual 58, 3, 6, 0, 224) := by decide +kernel
theorem vcl_17 : xe_look (xc 47) 17 = some (.ifCond .ge 9, 3, 0, 0, 0) := by decide +kernel
theorem vcl_20 : xe_look (xc 47) 20 = some (.aload_n 0, 1, 0, 0, 0) := by decide +kernel
theorem vcl_21 : xe_look (xc 47) 21 = some (.iconst 1, 1, 0, 0, 0) := by decide +kernel
theorem vcl_22 : xe_look (xc 47) 22 = some (.invokevirtual 64, 3, 0, 42, 852) := by decide +kernel
theorem vcl_25 : xe_look (xc 47) 25 = some (.return_, 1, 0, 0, 0) := by decide +kernel
theorem vcl_26 : xe_look (xc 47) 26 = some (.aload_n 0, 1, 0, 0, 0) := by decide +kernel
theorem vcl_27 : xe_look (xc 47) 27 = some (.getfield 15, 3, 4, 4, 856) := by decide +kernel
theorem vcl_30 : xe_look (xc 47) 30 = some (.iload_n 1, 1, 0, 0, 0) := by decide +kernel
theorem vcl_31 : xe_look (xc 47) 31 = some (.invokevirtual 67, 3, 0, 37, 863) := by decide +kernel
theorem vcl_34 : xe_look (xc 47) 34 = some (.ifCond .ne 9, 3, 0, 0, 0) := by decide +kernel
theorem vcl_37 : xe_look (xc 47) 37 = some (.aload_n 0, 1, 0, 0, 0) := by decide +kernel
theorem vcl_38 : xe_look (xc 47) 38 = some (.iconst 4, 1, 0, 0, 0) := by decide +kernel
theorem vcl_39 : xe_look (xc 47) 39 = some (.invokevirtual 64, 3, 0, 42, 852) := by decide +kernel
theorem vcl_42 : xe_look (xc 47) 42 = some (.return_, 1, 0, 0, 0) := by decide +kernel
theorem vcl_43 : xe_look (xc 47) 43 = some (.aload_n 0, 1, 0, 0, 0) := by decide +kernel
theorem vcl_44 : xe_look (xc 47) 44 = some (.dup, 1, 0, 0, 0) := by decide +kernel
theorem vcl_45 : xe_look (xc 47) 45 = some (.getfield 29, 3, 4, 2, 853) := by decide +kernel
theorem vcl_48 : xe_look (xc 47) 48 = some (.iconst 1, 1, 0, 0, 0) := by decide +kernel
theorem vcl_49 : xe_look (xc 47) 49 = some (.iadd, 1, 0, 0, 0) := by decide +kernel
theorem vcl_50 : xe_look (xc 47) 50 = some (.putfield 29, 3, 4, 2, 853) := by decide +kernel
theorem vcl_53 : xe_look (xc 47) 53 = some (.aload_n 0, 1, 0, 0, 0) := by decide +kernel
theorem vcl_54 : xe_look (xc 47) 54 = some (.iconst 0, 1, 0, 0, 0) := by decide +kernel
theorem vcl_55 : xe_look (xc 47) 55 = some (.invokevirtual 71, 3, 0, 54, 864) := by decide +kernel
theorem vcl_58 : xe_look (xc 47) 58 = some (.aload_n 0, 1, 0, 0, 0) := by decide +kernel
theorem vcl_59 : xe_look (xc 47) 59 = some (.getfield 15, 3, 4, 4, 856) := by decide +kernel
theorem vcl_62 : xe_look (xc 47) 62 = some (.invokevirtual 74, 3, 0, 39, 865) := by decide +kernel
theorem vcl_65 : xe_look (xc 47) 65 = some (.aload_n 0, 1, 0, 0, 0) := by decide +kernel
theorem vcl_66 : xe_look (xc 47) 66 = some (.bipush 40, 2, 0, 0, 0) := by decide +kernel
theorem vcl_68 : xe_look (xc 47) 68 = some (.invokevirtual 43, 3, 0, 41, 861) := by decide +kernel
theorem vcl_71 : xe_look (xc 47) 71 = some (.aload_n 0, 1, 0, 0, 0) := by decide +kernel
theorem vcl_72 : xe_look (xc 47) 72 = some (.iconst 1, 1, 0, 0, 0) := by decide +kernel
theorem vcl_73 : xe_look (xc 47) 73 = some (.invokevirtual 77, 3, 0, 49, 866) := by decide +kernel
theorem vcl_76 : xe_look (xc 47) 76 = some (.aload_n 0, 1, 0, 0, 0) := by decide +kernel
theorem vcl_77 : xe_look (xc 47) 77 = some (.bipush 41, 2, 0, 0, 0) := by decide +kernel
theorem vcl_79 : xe_look (xc 47) 79 = some (.invokevirtual 43, 3, 0, 41, 861) := by decide +kernel
theorem vcl_82 : xe_look (xc 47) 82 = some (.aload_n 0, 1, 0, 0, 0) := by decide +kernel
theorem vcl_83 : xe_look (xc 47) 83 = some (.getfield 15, 3, 4, 4, 856) := by decide +kernel
theorem vcl_86 : xe_look (xc 47) 86 = some (.invokevirtual 80, 3, 0, 32, 867) := by decide +kernel
theorem vcl_89 : xe_look (xc 47) 89 = some (.return_, 1, 0, 0, 0) := by decide +kernel
theorem vfa_7 : xe_look (xc 50) 7 = some (.return_, 1, 0, 0, 0) := by decide +kernel
theorem voc_0 : xe_look (xc 37) 0 = some (.aload_n 0, 1, 0, 0, 0) := by decide +kernel
theorem voc_1 : xe_look (xc 37) 1 = some (.getfield 33, 3, 3, 0, 835) := by decide +kernel
theorem voc_4 : xe_look (xc 37) 4 = some (.bipush 16, 2, 0, 0, 0) := by decide +kernel
theorem voc_6 : xe_look (xc 37) 6 = some (.if_icmp .lt 5, 3, 0, 0, 0) := by decide +kernel
theorem voc_9 : xe_look (xc 37) 9 = some (.iconst 0, 1, 0, 0, 0) := by decide +kernel
theorem voc_10 : xe_look (xc 37) 10 = some (.ireturn, 1, 0, 0, 0) := by decide +kernel
theorem voc_11 : xe_look (xc 37) 11 = some (.aload_n 0, 1, 0, 0, 0) := by decide +kernel
theorem voc_12 : xe_look (xc 37) 12 = some (.getfield 18, 3, 3, 5, 841) := by decide +kernel
theorem voc_15 : xe_look (xc 37) 15 = some (.aload_n 0, 1, 0, 0, 0) := by decide +kernel
theorem voc_16 : xe_look (xc 37) 16 = some (.getfield 33, 3, 3, 0, 835) := by decide +kernel
theorem voc_19 : xe_look (xc 37) 19 = some (.iload_n 1, 1, 0, 0, 0) := by decide +kernel
theorem voc_20 : xe_look (xc 37) 20 = some (.iastore, 1, 0, 0, 0) := by decide +kernel
theorem voc_21 : xe_look (xc 37) 21 = some (.aload_n 0, 1, 0, 0, 0) := by decide +kernel
theorem voc_22 : xe_look (xc 37) 22 = some (.getfield 21, 3, 3, 6, 842) := by decide +kernel
theorem voc_25 : xe_look (xc 37) 25 = some (.aload_n 0, 1, 0, 0, 0) := by decide +kernel
theorem voc_26 : xe_look (xc 37) 26 = some (.getfield 33, 3, 3, 0, 835) := by decide +kernel
theorem voc_29 : xe_look (xc 37) 29 = some (.aload_n 0, 1, 0, 0, 0) := by decide +kernel
theorem voc_30 : xe_look (xc 37) 30 = some (.getfield 37, 3, 3, 1, 836) := by decide +kernel
theorem voc_33 : xe_look (xc 37) 33 = some (.iastore, 1, 0, 0, 0) := by decide +kernel
theorem voc_34 : xe_look (xc 37) 34 = some (.iconst 1, 1, 0, 0, 0) := by decide +kernel
theorem voc_35 : xe_look (xc 37) 35 = some (.ireturn, 1, 0, 0, 0) := by decide +kernel
theorem vpi_7 : xe_look (xc 53) 7 = some (.return_, 1, 0, 0, 0) := by decide +kernel
theorem vst_0 : xe_look (xc 39) 0 = some (.aload_n 0, 1, 0, 0, 0) := by decide +kernel
theorem vst_1 : xe_look (xc 39) 1 = some (.getfield 33, 3, 3, 0, 835) := by decide +kernel
theorem vst_4 : xe_look (xc 39) 4 = some (.bipush 16, 2, 0, 0, 0) := by decide +kernel
theorem vst_6 : xe_look (xc 39) 6 = some (.if_icmp .ge 16, 3, 0, 0, 0) := by decide +kernel
theorem vst_9 : xe_look (xc 39) 9 = some (.aload_n 0, 1, 0, 0, 0) := by decide +kernel
theorem vst_10 : xe_look (xc 39) 10 = some (.getfield 24, 3, 3, 7, 843) := by decide +kernel
theorem vst_13 : xe_look (xc 39) 13 = some (.aload_n 0, 1, 0, 0, 0) := by decide +kernel
theorem vst_14 : xe_look (xc 39) 14 = some (.getfield 33, 3, 3, 0, 835) := by decide +kernel
theorem vst_17 : xe_look (xc 39) 17 = some (.aload_n 0, 1, 0, 0, 0) := by decide +kernel
theorem vst_18 : xe_look (xc 39) 18 = some (.getfield 37, 3, 3, 1, 836) := by decide +kernel
theorem vst_21 : xe_look (xc 39) 21 = some (.iastore, 1, 0, 0, 0) := by decide +kernel
theorem vst_22 : xe_look (xc 39) 22 = some (.return_, 1, 0, 0, 0) := by decide +kernel
abbrev lZ : Type := Int ⊕ (Int × (Int × (tC × (tC × (Int × (tC × (tC × (tC × tC))))))))
/-- a clause -/
def lU (H : Int → Int) (n p k : Int) (o v : tC) (c : Int) (le st co en : tC) (R : lZ) : Prop := (¬ lLe (H p) ∧ R = .inl (-1000 - p)) ∨ (lLe (H p) ∧ 16 ≤ c ∧ R = .inl (-4000 - p)) ∨ (lLe (H p) ∧ c < 16 ∧ ((∃ f, lI H n 4 0 (p + 1) k o v (.inl f) ∧ R = .inl f) ∨ ∃ p1 k1 o1 v1, lI H n 4 0 (p + 1) k o v (.inr (p1, k1, o1, v1)) ∧ lQ n (p + 1) k p1 k1 ∧ ((H p1 ≠ 40 ∧ R = .inl (-1000 - p1)) ∨ (H p1 = 40 ∧ ((∃ f, lI H n 10 1 (p1 + 1) k1 o1 v1 (.inl f) ∧ R = .inl f) ∨ ∃ p2 k2 o2 v2, lI H n 10 1 (p1 + 1) k1 o1 v1 (.inr (p2, k2, o2, v2)) ∧ lQ n (p1 + 1) k1 p2 k2 ∧ ((H p2 ≠ 41 ∧ R = .inl (-1000 - p2)) ∨ (H p2 = 41 ∧ R = .inr (p2 + 1, k2, o2, v2, c + 1, updI le c.toNat (H p), updI st c.toNat k, updI co c.toNat k1, updI en c.toNat k2))))))))
def lWc (H : Int → Int) (n : Int) (W : Int → Int → tC → tC → Int → tC → tC → tC → tC → lZ → Prop) : Prop :=
  (∀ p k o v c le st co en f, lP n p k → 0 ≤ c ∧ c ≤ 16 → lU H n p k o v c le st co en (.inl f) → W p k o v c le st co en (.inl f)) ∧
  (∀ p k o v c le st co en p1 k1 o1 v1 c1 le1 st1 co1 en1, lP n p k → 0 ≤ c ∧ c ≤ 16 → lU H n p k o v c le st co en (.inr (p1, k1, o1, v1, c1, le1, st1, co1, en1)) → lP n p1 k1 ∧ p1 = n → W p k o v c le st co en (.inr (p1, k1, o1, v1, c1, le1, st1, co1, en1))) ∧
  (∀ p k o v c le st co en p1 k1 o1 v1 c1 le1 st1 co1 en1, lP n p k → 0 ≤ c ∧ c ≤ 16 → lU H n p k o v c le st co en (.inr (p1, k1, o1, v1, c1, le1, st1, co1, en1)) → lP n p1 k1 ∧ p1 < n → H p1 ≠ 59 → W p k o v c le st co en (.inl (-1000 - p1))) ∧
  (∀ p k o v c le st co en p1 k1 o1 v1 c1 le1 st1 co1 en1 r, lP n p k → 0 ≤ c ∧ c ≤ 16 → lU H n p k o v c le st co en (.inr (p1, k1, o1, v1, c1, le1, st1, co1, en1)) → lP n p1 k1 ∧ p1 < n → H p1 = 59 → W (p1 + 1) k1 o1 v1 c1 le1 st1 co1 en1 r → W p k o v c le st co en r)
def lWs (H : Int → Int) (n p k : Int) (o v : tC) (c : Int) (le st co en : tC) (r : lZ) : Prop := ∀ W, lWc H n W → W p k o v c le st co en r
theorem lLe_i (h : Int) : (lLe h → 0 ≤ lIx 0 h) ∧ (¬ lLe h → lIx 0 h = -1) := by
  unfold lLe lIx
  rw [if_pos rfl]
  omega
theorem vfa_n {d : Nat} {K : Nat} (hK : lK K) {g0 g : pH} {B : tC} {n : Int} (hB : lB K g0 B n) {p f k c : Int} {o v le st co en : tC} (hS : lS K g0 g p f k c o v le st co en) (hf0 : f < 0) {P : Option pv × pH → Prop} (hP : P (none, g)) {lv : List (Nat × pv)} (l0 : px_lg lv 0 = some (pvR 154)) : t_X d 50 0 lv [] g P := by
  obtain ⟨hn, hp, hf, hk, hc, hH⟩ := lc_m hB hK hS
  refine t_0 vfa_0 rfl (ld_a l0) ?_
  refine t_0 vfa_1 rfl (pq_cv leo_154 rfl (show cF g 154 3 = f from S_f hS 1 (Nat.le_of_ble_eq_true rfl))) ?_
  show t_X d 50 4 lv [oI (f)] g P
  refine tz_eq vfa_4 (by decide) ⟨by omega, by omega⟩ (fun c1 => absurd c1 (by omega)) (fun c1 => ?_)
  show t_X d 50 7 lv [] g P
  refine t_5 vfa_7 rfl rfl ?_
  exact hP
theorem vpi_n {d : Nat} {K : Nat} (hK : lK K) {g0 g : pH} {B : tC} {n : Int} (hB : lB K g0 B n) {p f k c : Int} {o v le st co en : tC} (hS : lS K g0 g p f k c o v le st co en) (hf0 : f < 0) {P : Option pv × pH → Prop} (hP : P (none, g)) {lv : List (Nat × pv)} (l0 : px_lg lv 0 = some (pvR 154)) : t_X d 53 0 lv [] g P := by
  obtain ⟨hn, hp, hf, hk, hc, hH⟩ := lc_m hB hK hS
  refine t_0 vpi_0 rfl (ld_a l0) ?_
  refine t_0 vpi_1 rfl (pq_cv leo_154 rfl (show cF g 154 3 = f from S_f hS 1 (Nat.le_of_ble_eq_true rfl))) ?_
  show t_X d 53 4 lv [oI (f)] g P
  refine tz_eq vpi_4 (by decide) ⟨by omega, by omega⟩ (fun c1 => absurd c1 (by omega)) (fun c1 => ?_)
  show t_X d 53 7 lv [] g P
  refine t_5 vpi_7 rfl rfl ?_
  exact hP
theorem vte_n {d : Nat} {K : Nat} (hK : lK K) (hd : 2 ≤ d) {g0 g : pH} {B : tC} {n : Int} (hB : lB K g0 B n) {p f k c : Int} {o v le st co en : tC} (hS : lS K g0 g p f k c o v le st co en) (hf0 : f < 0) {P : Option pv × pH → Prop} {δ : Int} (hP : P (none, g)) {lv : List (Nat × pv)} (l0 : px_lg lv 0 = some (pvR 154)) (l1 : px_lg lv 1 = some (oI δ)) : t_X d 55 0 lv [] g P := by
  obtain ⟨hn, hp, hf, hk, hc, hH⟩ := lc_m hB hK hS
  refine t_0 vte_0 rfl (ld_a l0) ?_
  refine t_0 vte_1 rfl (ld_i l1) ?_
  refine t_3 vte_2 rfl (ar := ([pvR 154, oI (δ)], [])) (pcal_w (as := [oI (δ)]) rfl rfl rfl leo_154) ⟨by omega, Nat.le_of_ble_eq_true rfl, Nat.le_of_ble_eq_true rfl, rfl⟩ ?_
  refine vfa_n hK hB hS hf0 ?_ rfl
  show t_X d 55 5 lv [] g P
  refine t_0 vte_5 rfl (ld_a l0) ?_
  refine t_0 vte_6 rfl rfl ?_
  refine t_0 vte_8 rfl rfl ?_
  refine t_3 vte_9 rfl (ar := ([pvR 154, pvR 1005, oI 4], [])) (pcal_w (as := [oI 4, pvR 1005]) rfl rfl rfl leo_154) ⟨by omega, Nat.le_of_ble_eq_true rfl, Nat.le_of_ble_eq_true rfl, rfl⟩ ?_
  refine von_run hK (by omega) hB hS (by omega) ?_ rfl
  show t_X d 55 12 lv [oI (-1)] g P
  refine t_2 vte_12 rfl (w := (px_s1 lv 2 (oI (-1)), [])) rfl ?_
  replace l0 : px_lg (px_s1 lv 2 (oI (-1))) 0 = some (pvR 154) := s1_ne (by decide) (fun _ => rfl) l0
  replace l1 : px_lg (px_s1 lv 2 (oI (-1))) 1 = some (oI (δ)) := s1_ne (by decide) (fun _ => rfl) l1
  have l2 : px_lg (px_s1 lv 2 (oI (-1))) 2 = some (oI (-1)) := s1_eq
  generalize px_s1 lv 2 (oI (-1)) = lv1 at l0 l1 l2 ⊢
  show t_X d 55 13 lv1 [] g P
  refine t_0 vte_13 rfl rfl ?_
  refine t_2 vte_14 rfl (w := (px_s1 lv1 3 (oI 0), [])) rfl ?_
  replace l0 : px_lg (px_s1 lv1 3 (oI 0)) 0 = some (pvR 154) := s1_ne (by decide) (fun _ => rfl) l0
  replace l1 : px_lg (px_s1 lv1 3 (oI 0)) 1 = some (oI (δ)) := s1_ne (by decide) (fun _ => rfl) l1
  replace l2 : px_lg (px_s1 lv1 3 (oI 0)) 2 = some (oI (-1)) := s1_ne (by decide) (fun _ => rfl) l2
  have l3 : px_lg (px_s1 lv1 3 (oI 0)) 3 = some (oI 0) := s1_eq
  generalize px_s1 lv1 3 (oI 0) = lv2 at l0 l1 l2 l3 ⊢
  show t_X d 55 15 lv2 [] g P
  refine t_0 vte_15 rfl (ld_i l3) ?_
  refine t_0 vte_16 rfl (pq_s (by decide)) ?_
  refine tb_ge vte_19 (by decide) ⟨by omega, by omega⟩ ⟨by omega, by omega⟩ (fun c3 => absurd c3 (by omega)) (fun c3 => ?_)
  show t_X d 55 22 lv2 [] g P
  refine t_0 vte_22 rfl (ld_i l2) ?_
  refine t_0 vte_23 rfl rfl ?_
  refine tb_eq vte_24 (by decide) ⟨by omega, by omega⟩ ⟨by omega, by omega⟩ (fun c4 => ?_) (fun c4 => absurd c4 (by omega))
  show t_X d 55 66 lv2 [] g P
  refine t_5 vte_66 rfl rfl ?_
  exact hP
theorem vsu_n {d : Nat} {K : Nat} (hK : lK K) (hd : 3 ≤ d) {g0 g : pH} {B : tC} {n : Int} (hB : lB K g0 B n) {p f k c : Int} {o v le st co en : tC} (hS : lS K g0 g p f k c o v le st co en) (hf0 : f < 0) {P : Option pv × pH → Prop} {δ : Int} (hP : P (none, g)) {lv : List (Nat × pv)} (l0 : px_lg lv 0 = some (pvR 154)) (l1 : px_lg lv 1 = some (oI δ)) : t_X d 54 0 lv [] g P := by
  obtain ⟨hn, hp, hf, hk, hc, hH⟩ := lc_m hB hK hS
  refine t_0 vsu_0 rfl (ld_a l0) ?_
  refine t_0 vsu_1 rfl (ld_i l1) ?_
  refine t_3 vsu_2 rfl (ar := ([pvR 154, oI (δ)], [])) (pcal_w (as := [oI (δ)]) rfl rfl rfl leo_154) ⟨by omega, Nat.le_of_ble_eq_true rfl, Nat.le_of_ble_eq_true rfl, rfl⟩ ?_
  refine vte_n hK (by omega) hB hS hf0 ?_ rfl rfl
  show t_X d 54 5 lv [] g P
  refine t_0 vsu_5 rfl (ld_a l0) ?_
  refine t_0 vsu_6 rfl rfl ?_
  refine t_0 vsu_8 rfl rfl ?_
  refine t_3 vsu_9 rfl (ar := ([pvR 154, pvR 1004, oI 2], [])) (pcal_w (as := [oI 2, pvR 1004]) rfl rfl rfl leo_154) ⟨by omega, Nat.le_of_ble_eq_true rfl, Nat.le_of_ble_eq_true rfl, rfl⟩ ?_
  refine von_run hK (by omega) hB hS (by omega) ?_ rfl
  show t_X d 54 12 lv [oI (-1)] g P
  refine t_2 vsu_12 rfl (w := (px_s1 lv 2 (oI (-1)), [])) rfl ?_
  replace l0 : px_lg (px_s1 lv 2 (oI (-1))) 0 = some (pvR 154) := s1_ne (by decide) (fun _ => rfl) l0
  replace l1 : px_lg (px_s1 lv 2 (oI (-1))) 1 = some (oI (δ)) := s1_ne (by decide) (fun _ => rfl) l1
  have l2 : px_lg (px_s1 lv 2 (oI (-1))) 2 = some (oI (-1)) := s1_eq
  generalize px_s1 lv 2 (oI (-1)) = lv1 at l0 l1 l2 ⊢
  show t_X d 54 13 lv1 [] g P
  refine t_0 vsu_13 rfl rfl ?_
  refine t_2 vsu_14 rfl (w := (px_s1 lv1 3 (oI 0), [])) rfl ?_
  replace l0 : px_lg (px_s1 lv1 3 (oI 0)) 0 = some (pvR 154) := s1_ne (by decide) (fun _ => rfl) l0
  replace l1 : px_lg (px_s1 lv1 3 (oI 0)) 1 = some (oI (δ)) := s1_ne (by decide) (fun _ => rfl) l1
  replace l2 : px_lg (px_s1 lv1 3 (oI 0)) 2 = some (oI (-1)) := s1_ne (by decide) (fun _ => rfl) l2
  have l3 : px_lg (px_s1 lv1 3 (oI 0)) 3 = some (oI 0) := s1_eq
  generalize px_s1 lv1 3 (oI 0) = lv2 at l0 l1 l2 l3 ⊢
  show t_X d 54 15 lv2 [] g P
  refine t_0 vsu_15 rfl (ld_i l3) ?_
  refine t_0 vsu_16 rfl (pq_s (by decide)) ?_
  refine tb_ge vsu_19 (by decide) ⟨by omega, by omega⟩ ⟨by omega, by omega⟩ (fun c3 => absurd c3 (by omega)) (fun c3 => ?_)
  show t_X d 54 22 lv2 [] g P
  refine t_0 vsu_22 rfl (ld_i l2) ?_
  refine t_0 vsu_23 rfl rfl ?_
  refine tb_eq vsu_24 (by decide) ⟨by omega, by omega⟩ ⟨by omega, by omega⟩ (fun c4 => ?_) (fun c4 => absurd c4 (by omega))
  show t_X d 54 66 lv2 [] g P
  refine t_5 vsu_66 rfl rfl ?_
  exact hP
theorem vpa_n {d : Nat} {K : Nat} (hK : lK K) (hd : 2 ≤ d) {g0 g : pH} {B : tC} {n : Int} (hB : lB K g0 B n) {p f k c : Int} {o v le st co en : tC} (hS : lS K g0 g p f k c o v le st co en) (hf0 : f < 0) {P : Option pv × pH → Prop} {δ : Int} (hP : P (none, g)) {lv : List (Nat × pv)} (l0 : px_lg lv 0 = some (pvR 154)) (l1 : px_lg lv 1 = some (oI δ)) : t_X d 52 0 lv [] g P := by
  obtain ⟨hn, hp, hf, hk, hc, hH⟩ := lc_m hB hK hS
  refine t_0 vpa_0 rfl (ld_a l0) ?_
  refine t_0 vpa_1 rfl (ld_i l1) ?_
  refine t_3 vpa_2 rfl (ar := ([pvR 154, oI (δ)], [])) (pcal_w (as := [oI (δ)]) rfl rfl rfl leo_154) ⟨by omega, Nat.le_of_ble_eq_true rfl, Nat.le_of_ble_eq_true rfl, rfl⟩ ?_
  refine vpi_n hK hB hS hf0 ?_ rfl
  show t_X d 52 5 lv [] g P
  refine t_0 vpa_5 rfl rfl ?_
  refine t_2 vpa_6 rfl (w := (px_s1 lv 2 (oI 0), [])) rfl ?_
  replace l0 : px_lg (px_s1 lv 2 (oI 0)) 0 = some (pvR 154) := s1_ne (by decide) (fun _ => rfl) l0
  replace l1 : px_lg (px_s1 lv 2 (oI 0)) 1 = some (oI (δ)) := s1_ne (by decide) (fun _ => rfl) l1
  have l2 : px_lg (px_s1 lv 2 (oI 0)) 2 = some (oI 0) := s1_eq
  generalize px_s1 lv 2 (oI 0) = lv1 at l0 l1 l2 ⊢
  show t_X d 52 7 lv1 [] g P
  refine t_0 vpa_7 rfl (ld_i l2) ?_
  refine t_0 vpa_8 rfl (pq_s (by decide)) ?_
  refine tb_ge vpa_11 (by decide) ⟨by omega, by omega⟩ ⟨by omega, by omega⟩ (fun c2 => absurd c2 (by omega)) (fun c2 => ?_)
  show t_X d 52 14 lv1 [] g P
  refine t_0 vpa_14 rfl (ld_a l0) ?_
  refine t_0 vpa_15 rfl (pq_cv leo_154 rfl (show cF g 154 3 = f from S_f hS 1 (Nat.le_of_ble_eq_true rfl))) ?_
  show t_X d 52 18 lv1 [oI (f)] g P
  refine tz_ne vpa_18 (by decide) ⟨by omega, by omega⟩ (fun c3 => ?_) (fun c3 => absurd c3 (by omega))
  show t_X d 52 70 lv1 [] g P
  refine t_5 vpa_70 rfl rfl ?_
  exact hP
theorem vco_n {d : Nat} {K : Nat} (hK : lK K) (hd : 3 ≤ d) {g0 g : pH} {B : tC} {n : Int} (hB : lB K g0 B n) {p f k c : Int} {o v le st co en : tC} (hS : lS K g0 g p f k c o v le st co en) (hf0 : f < 0) {P : Option pv × pH → Prop} {δ : Int} (hP : P (none, g)) {lv : List (Nat × pv)} (l0 : px_lg lv 0 = some (pvR 154)) (l1 : px_lg lv 1 = some (oI δ)) : t_X d 49 0 lv [] g P := by
  obtain ⟨hn, hp, hf, hk, hc, hH⟩ := lc_m hB hK hS
  refine t_0 vco_0 rfl (ld_a l0) ?_
  refine t_0 vco_1 rfl (ld_i l1) ?_
  refine t_3 vco_2 rfl (ar := ([pvR 154, oI (δ)], [])) (pcal_w (as := [oI (δ)]) rfl rfl rfl leo_154) ⟨by omega, Nat.le_of_ble_eq_true rfl, Nat.le_of_ble_eq_true rfl, rfl⟩ ?_
  refine vpa_n hK (by omega) hB hS hf0 ?_ rfl rfl
  show t_X d 49 5 lv [] g P
  refine t_0 vco_5 rfl rfl ?_
  refine t_2 vco_6 rfl (w := (px_s1 lv 2 (oI 0), [])) rfl ?_
  replace l0 : px_lg (px_s1 lv 2 (oI 0)) 0 = some (pvR 154) := s1_ne (by decide) (fun _ => rfl) l0
  replace l1 : px_lg (px_s1 lv 2 (oI 0)) 1 = some (oI (δ)) := s1_ne (by decide) (fun _ => rfl) l1
  have l2 : px_lg (px_s1 lv 2 (oI 0)) 2 = some (oI 0) := s1_eq
  generalize px_s1 lv 2 (oI 0) = lv1 at l0 l1 l2 ⊢
  show t_X d 49 7 lv1 [] g P
  refine t_0 vco_7 rfl (ld_i l2) ?_
  refine t_0 vco_8 rfl (pq_s (by decide)) ?_
  refine tb_ge vco_11 (by decide) ⟨by omega, by omega⟩ ⟨by omega, by omega⟩ (fun c2 => absurd c2 (by omega)) (fun c2 => ?_)
  show t_X d 49 14 lv1 [] g P
  refine t_0 vco_14 rfl (ld_a l0) ?_
  refine t_0 vco_15 rfl (pq_cv leo_154 rfl (show cF g 154 3 = f from S_f hS 1 (Nat.le_of_ble_eq_true rfl))) ?_
  show t_X d 49 18 lv1 [oI (f)] g P
  refine tz_ne vco_18 (by decide) ⟨by omega, by omega⟩ (fun c3 => ?_) (fun c3 => absurd c3 (by omega))
  show t_X d 49 70 lv1 [] g P
  refine t_5 vco_70 rfl rfl ?_
  exact hP
theorem voc_run {d : Nat} {K : Nat} (hK : lK K) {g0 g : pH} {B : tC} {n : Int} (hB : lB K g0 B n) {p f k c : Int} {o v le st co en : tC} (hS : lS K g0 g p f k c o v le st co en) {a : Int} (ha : 0 ≤ a ∧ a ≤ 255) {P : Option pv × pH → Prop} (h1 : c < 16 → ∀ g1 : pH, lS K g0 g1 p f k c o v (updI le c.toNat a) (updI st c.toNat k) co en → P (some (oI 1), g1)) (h0 : 16 ≤ c → P (some (oI 0), g)) {lv : List (Nat × pv)} (l0 : px_lg lv 0 = some (pvR K)) (l1 : px_lg lv 1 = some (oI a)) : t_X d 37 0 lv [] g P := by
  obtain ⟨hn, hp, hf, hk, hc, hH⟩ := lc_m hB hK hS
  refine t_0 voc_0 rfl (ld_a l0) ?_
  refine t_0 voc_1 rfl (pq_cv (lk_e hK) rfl (show cF g K 0 = c from S_f hS 3 (Nat.le_of_ble_eq_true rfl))) ?_
  show t_X d 37 4 lv [oI (c)] g P
  refine t_0 voc_4 rfl (pq_b (by decide)) ?_
  refine tb_lt voc_6 (by decide) ⟨by omega, by omega⟩ ⟨by omega, by omega⟩ (fun c1 => ?_) (fun c1 => ?_)
  · show t_X d 37 11 lv [] g P
    refine t_0 voc_11 rfl (ld_a l0) ?_
    refine t_0 voc_12 rfl (lk_r5 hK (S_J hS).1) ?_
    show t_X d 37 15 lv [pvR (K + 3)] g P
    refine t_0 voc_15 rfl (ld_a l0) ?_
    refine t_0 voc_16 rfl (pq_cv (lk_e hK) rfl (show cF g K 0 = c from S_f hS 3 (Nat.le_of_ble_eq_true rfl))) ?_
    show t_X d 37 19 lv [oI (c), pvR (K + 3)] g P
    refine t_0 voc_19 rfl (ld_i l1) ?_
    refine ts_a (n := 2) rfl rfl (lk_a3 hK) voc_20 hS (lk_t3 hK) rfl (lk_u3 hK) (lk_G3 hK) (by decide) ⟨by omega, by omega⟩ ⟨by omega, by omega⟩ (fun g2 hS2 => ?_)
    replace hS2 : lS K g0 g2 p f k c o v (updI le c.toNat a) st co en := hS2
    show t_X d 37 21 lv [] g2 P
    refine t_0 voc_21 rfl (ld_a l0) ?_
    refine t_0 voc_22 rfl (lk_r6 hK (S_J hS2).1) ?_
    show t_X d 37 25 lv [pvR (K + 4)] g2 P
    refine t_0 voc_25 rfl (ld_a l0) ?_
    refine t_0 voc_26 rfl (pq_cv (lk_e hK) rfl (show cF g2 K 0 = c from S_f hS2 3 (Nat.le_of_ble_eq_true rfl))) ?_
    show t_X d 37 29 lv [oI (c), pvR (K + 4)] g2 P
    refine t_0 voc_29 rfl (ld_a l0) ?_
    refine t_0 voc_30 rfl (pq_cv (lk_e hK) rfl (show cF g2 K 1 = k from S_f hS2 2 (Nat.le_of_ble_eq_true rfl))) ?_
    show t_X d 37 33 lv [oI (k), oI (c), pvR (K + 4)] g2 P
    refine ts_a (n := 3) rfl rfl (lk_a4 hK) voc_33 hS2 (lk_t4 hK) rfl (lk_u4 hK) (lk_G4 hK) (by decide) ⟨by omega, by omega⟩ ⟨by omega, by omega⟩ (fun g3 hS3 => ?_)
    replace hS3 : lS K g0 g3 p f k c o v (updI le c.toNat a) (updI st c.toNat k) co en := hS3
    show t_X d 37 34 lv [] g3 P
    refine t_0 voc_34 rfl rfl ?_
    refine t_5 voc_35 rfl rfl ?_
    exact h1 (by omega) _ hS3
  · show t_X d 37 9 lv [] g P
    refine t_0 voc_9 rfl rfl ?_
    refine t_5 voc_10 rfl rfl ?_
    exact h0 (by omega)
theorem vst_run {d : Nat} {K : Nat} (hK : lK K) {g0 g : pH} {B : tC} {n : Int} (hB : lB K g0 B n) {p f k c : Int} {o v le st co en : tC} (hS : lS K g0 g p f k c o v le st co en) {P : Option pv × pH → Prop} (h1 : c < 16 → ∀ g1 : pH, lS K g0 g1 p f k c o v le st (updI co c.toNat k) en → P (none, g1)) (h0 : 16 ≤ c → P (none, g)) {lv : List (Nat × pv)} (l0 : px_lg lv 0 = some (pvR K)) : t_X d 39 0 lv [] g P := by
  obtain ⟨hn, hp, hf, hk, hc, hH⟩ := lc_m hB hK hS
  refine t_0 vst_0 rfl (ld_a l0) ?_
  refine t_0 vst_1 rfl (pq_cv (lk_e hK) rfl (show cF g K 0 = c from S_f hS 3 (Nat.le_of_ble_eq_true rfl))) ?_
  show t_X d 39 4 lv [oI (c)] g P
  refine t_0 vst_4 rfl (pq_b (by decide)) ?_
  refine tb_ge vst_6 (by decide) ⟨by omega, by omega⟩ ⟨by omega, by omega⟩ (fun c1 => ?_) (fun c1 => ?_)
  · show t_X d 39 22 lv [] g P
    refine t_5 vst_22 rfl rfl ?_
    exact h0 (by omega)
  · show t_X d 39 9 lv [] g P
    refine t_0 vst_9 rfl (ld_a l0) ?_
    refine t_0 vst_10 rfl (lk_r7 hK (S_J hS).1) ?_
    show t_X d 39 13 lv [pvR (K + 5)] g P
    refine t_0 vst_13 rfl (ld_a l0) ?_
    refine t_0 vst_14 rfl (pq_cv (lk_e hK) rfl (show cF g K 0 = c from S_f hS 3 (Nat.le_of_ble_eq_true rfl))) ?_
    show t_X d 39 17 lv [oI (c), pvR (K + 5)] g P
    refine t_0 vst_17 rfl (ld_a l0) ?_
    refine t_0 vst_18 rfl (pq_cv (lk_e hK) rfl (show cF g K 1 = k from S_f hS 2 (Nat.le_of_ble_eq_true rfl))) ?_
    show t_X d 39 21 lv [oI (k), oI (c), pvR (K + 5)] g P
    refine ts_a (n := 4) rfl rfl (lk_a5 hK) vst_21 hS (lk_t5 hK) rfl (lk_u5 hK) (lk_G5 hK) (by decide) ⟨by omega, by omega⟩ ⟨by omega, by omega⟩ (fun g2 hS2 => ?_)
    replace hS2 : lS K g0 g2 p f k c o v le st (updI co c.toNat k) en := hS2
    show t_X d 39 22 lv [] g2 P
    refine t_5 vst_22 rfl rfl ?_
    exact h1 (by omega) _ hS2
theorem vcc_run {d : Nat} {K : Nat} (hK : lK K) {g0 g : pH} {B : tC} {n : Int} (hB : lB K g0 B n) {p f k c : Int} {o v le st co en : tC} (hS : lS K g0 g p f k c o v le st co en) {P : Option pv × pH → Prop} (h1 : c < 16 → ∀ g1 : pH, lS K g0 g1 p f k (c + 1) o v le st co (updI en c.toNat k) → P (none, g1)) (h0 : 16 ≤ c → P (none, g)) {lv : List (Nat × pv)} (l0 : px_lg lv 0 = some (pvR K)) : t_X d 32 0 lv [] g P := by
  obtain ⟨hn, hp, hf, hk, hc, hH⟩ := lc_m hB hK hS
  refine t_0 vcc_0 rfl (ld_a l0) ?_
  refine t_0 vcc_1 rfl (pq_cv (lk_e hK) rfl (show cF g K 0 = c from S_f hS 3 (Nat.le_of_ble_eq_true rfl))) ?_
  show t_X d 32 4 lv [oI (c)] g P
  refine t_0 vcc_4 rfl (pq_b (by decide)) ?_
  refine tb_ge vcc_6 (by decide) ⟨by omega, by omega⟩ ⟨by omega, by omega⟩ (fun c1 => ?_) (fun c1 => ?_)
  · show t_X d 32 32 lv [] g P
    refine t_5 vcc_32 rfl rfl ?_
    exact h0 (by omega)
  · show t_X d 32 9 lv [] g P
    refine t_0 vcc_9 rfl (ld_a l0) ?_
    refine t_0 vcc_10 rfl (lk_r8 hK (S_J hS).1) ?_
    show t_X d 32 13 lv [pvR (K + 6)] g P
    refine t_0 vcc_13 rfl (ld_a l0) ?_
    refine t_0 vcc_14 rfl (pq_cv (lk_e hK) rfl (show cF g K 0 = c from S_f hS 3 (Nat.le_of_ble_eq_true rfl))) ?_
    show t_X d 32 17 lv [oI (c), pvR (K + 6)] g P
    refine t_0 vcc_17 rfl (ld_a l0) ?_
    refine t_0 vcc_18 rfl (pq_cv (lk_e hK) rfl (show cF g K 1 = k from S_f hS 2 (Nat.le_of_ble_eq_true rfl))) ?_
    show t_X d 32 21 lv [oI (k), oI (c), pvR (K + 6)] g P
    refine ts_a (n := 5) rfl rfl (lk_a6 hK) vcc_21 hS (lk_t6 hK) rfl (lk_u6 hK) (lk_G6 hK) (by decide) ⟨by omega, by omega⟩ ⟨by omega, by omega⟩ (fun g2 hS2 => ?_)
    replace hS2 : lS K g0 g2 p f k c o v le st co (updI en c.toNat k) := hS2
    show t_X d 32 22 lv [] g2 P
    refine t_0 vcc_22 rfl (ld_a l0) ?_
    refine t_0 vcc_23 rfl rfl ?_
    refine t_0 vcc_24 rfl (pq_cv (lk_e hK) rfl (show cF g2 K 0 = c from S_f hS2 3 (Nat.le_of_ble_eq_true rfl))) ?_
    show t_X d 32 27 lv [oI (c), pvR K] g2 P
    refine t_0 vcc_27 rfl rfl ?_
    refine t_0 vcc_28 rfl pq_add ?_
    refine ts_f (n := 3) rfl rfl (lk_f3 hK) vcc_29 rfl (lk_e hK) hS2 (lk_w3 hK) (lk_g0 hK) (by decide) ⟨by omega, by omega⟩ (fun g3 hS3 => ?_)
    replace hS3 : lS K g0 g3 p f k (c + 1) o v le st co (updI en c.toNat k) := hS3
    show t_X d 32 32 lv [] g3 P
    refine t_5 vcc_32 rfl rfl ?_
    exact h1 (by omega) _ hS3
set_option maxHeartbeats 8000000 in
theorem vcl_run {d : Nat} {K : Nat} (hK : lK K) (hd : 53 ≤ d) {g0 g : pH} {B : tC} {n : Int} (hB : lB K g0 B n) {p k c : Int} {o v le st co en : tC} (hS : lS K g0 g p 0 k c o v le st co en) (hLP : lP n p k) {P : Option pv × pH → Prop} (hF : ∀ (g1 : pH) (f p1 k1 c1 : Int) (o1 v1 le1 st1 co1 en1 : tC), lS K g0 g1 p1 f k1 c1 o1 v1 le1 st1 co1 en1 → f < 0 → lU (tH B n) n p k o v c le st co en (.inl f) → P (none, g1)) (hO : ∀ (g1 : pH) (p1 k1 : Int) (o1 v1 le1 st1 co1 en1 : tC), lS K g0 g1 p1 0 k1 (c + 1) o1 v1 le1 st1 co1 en1 → lP n p1 k1 → p < p1 → lU (tH B n) n p k o v c le st co en (.inr (p1, k1, o1, v1, c + 1, le1, st1, co1, en1)) → P (none, g1)) {lv : List (Nat × pv)} (l0 : px_lg lv 0 = some (pvR 154)) : t_X d 47 0 lv [] g P := by
  obtain ⟨hn, hp, hf, hk, hc, hH⟩ := lc_m hB hK hS
  have hP := hLP
  unfold lP at hP
  refine t_0 vcl_0 rfl (ld_a l0) ?_
  refine t_3 vcl_1 rfl (ar := ([pvR 154], [])) (pcal_w (as := []) rfl rfl rfl leo_154) ⟨by omega, Nat.le_of_ble_eq_true rfl, Nat.le_of_ble_eq_true rfl, rfl⟩ ?_
  refine vsg_run hK hB hS ?_ rfl
  have b1 := hH p (by omega)
  have z1 := tH_n (B := B) (n := n) (p := p)
  show t_X d 47 4 lv [oI (tH B n p)] g P
  refine t_2 vcl_4 rfl (w := (px_s1 lv 1 (oI (tH B n p)), [])) rfl ?_
  replace l0 : px_lg (px_s1 lv 1 (oI (tH B n p))) 0 = some (pvR 154) := s1_ne (by decide) (fun _ => rfl) l0
  have l1 : px_lg (px_s1 lv 1 (oI (tH B n p))) 1 = some (oI (tH B n p)) := s1_eq
  generalize px_s1 lv 1 (oI (tH B n p)) = lv2 at l0 l1 ⊢
  show t_X d 47 5 lv2 [] g P
  refine t_0 vcl_5 rfl (ld_i l1) ?_
  refine t_0 vcl_6 rfl rfl ?_
  refine tb_eq vcl_7 (by decide) ⟨by omega, by omega⟩ ⟨by omega, by omega⟩ (fun c3 => ?_) (fun c3 => ?_)
  · show t_X d 47 20 lv2 [] g P
    refine t_0 vcl_20 rfl (ld_a l0) ?_
    refine t_0 vcl_21 rfl rfl ?_
    refine t_3 vcl_22 rfl (ar := ([pvR 154, oI 1], [])) (pcal_w (as := [oI 1]) rfl rfl rfl leo_154) ⟨by omega, Nat.le_of_ble_eq_true rfl, Nat.le_of_ble_eq_true rfl, rfl⟩ ?_
    refine vfl_run hK hB hS ⟨by omega, by omega⟩ (fun g4 hS4 => ?_) rfl rfl
    replace hS4 : lS K g0 g4 p (-1000 * 1 - p) k c o v le st co en := hS4
    show t_X d 47 25 lv2 [] g4 P
    refine t_5 vcl_25 rfl rfl ?_
    rw [show -1000 * 1 - p = -1000 - p by omega] at hS4
    exact hF _ _ _ _ _ _ _ _ _ _ _ hS4 (by omega) (Or.inl ⟨fun z => absurd ((lLe_i (tH B n p)).1 z) (by first | omega | (rw [show tH B n p = -1 by omega]; decide)), rfl⟩)
  · show t_X d 47 10 lv2 [] g P
    refine t_0 vcl_10 rfl rfl ?_
    refine t_0 vcl_12 rfl (ld_i l1) ?_
    refine t_0 vcl_13 rfl (pq_i2c ⟨by omega, by omega⟩) ?_
    refine tx_ix 0 (by decide) vcl_14 rfl rfl (by omega) (Nat.le_of_ble_eq_true rfl) ⟨by omega, by omega⟩ ?_
    have y9 : -1 ≤ lIx 0 (tH B n p) ∧ lIx 0 (tH B n p) ≤ 7 := by unfold lIx; rw [if_pos rfl]; omega
    show t_X d 47 17 lv2 [oI (lIx 0 (tH B n p))] g P
    refine tz_ge vcl_17 (by decide) ⟨by omega, by omega⟩ (fun c5 => ?_) (fun c5 => ?_)
    · show t_X d 47 26 lv2 [] g P
      refine t_0 vcl_26 rfl (ld_a l0) ?_
      refine t_0 vcl_27 rfl (pq_ro leo_154 rfl (lc_c hB hK hS)) ?_
      show t_X d 47 30 lv2 [pvR K] g P
      refine t_0 vcl_30 rfl (ld_i l1) ?_
      refine t_3 vcl_31 rfl (ar := ([pvR K, oI (tH B n p)], [])) (pcal_w (as := [oI (tH B n p)]) rfl rfl rfl (lk_e hK)) ⟨by omega, Nat.le_of_ble_eq_true rfl, Nat.le_of_ble_eq_true rfl, rfl⟩ ?_
      refine voc_run hK hB hS ⟨by omega, by omega⟩ (fun t6 g6 hS6 => ?_) (fun t6 => ?_) rfl rfl
      · replace hS6 : lS K g0 g6 p 0 k c o v (updI le c.toNat (tH B n p)) (updI st c.toNat k) co en := hS6
        show t_X d 47 34 lv2 [oI 1] g6 P
        refine tz_ne vcl_34 (by decide) ⟨by omega, by omega⟩ (fun c7 => ?_) (fun c7 => absurd c7 (by omega))
        show t_X d 47 43 lv2 [] g6 P
        refine t_0 vcl_43 rfl (ld_a l0) ?_
        refine t_0 vcl_44 rfl rfl ?_
        refine t_0 vcl_45 rfl (pq_cv leo_154 rfl (show cF g6 154 2 = p from S_f hS6 0 (Nat.le_of_ble_eq_true rfl))) ?_
        show t_X d 47 48 lv2 [oI (p), pvR 154] g6 P
        refine t_0 vcl_48 rfl rfl ?_
        refine t_0 vcl_49 rfl pq_add ?_
        refine ts_f (n := 0) rfl rfl (lk_f0 hK) vcl_50 rfl leo_154 hS6 (lk_w0 hK) lgy_154_2 (by decide) ⟨by omega, by omega⟩ (fun g8 hS8 => ?_)
        replace hS8 : lS K g0 g8 (p + 1) 0 k c o v (updI le c.toNat (tH B n p)) (updI st c.toNat k) co en := hS8
        show t_X d 47 53 lv2 [] g8 P
        refine t_0 vcl_53 rfl (ld_a l0) ?_
        refine t_0 vcl_54 rfl rfl ?_
        refine t_3 vcl_55 rfl (ar := ([pvR 154, oI 0], [])) (pcal_w (as := [oI 0]) rfl rfl rfl leo_154) ⟨by omega, Nat.le_of_ble_eq_true rfl, Nat.le_of_ble_eq_true rfl, rfl⟩ ?_
        refine (vSu_at hK hB 6 0 (by omega) (by omega)) _ (by omega) _ _ _ _ _ _ _ _ _ _ hS8 ⟨by omega, by omega, by omega, by omega⟩ _ (fun g9 f9 p9 k9 o9 v9 hS9 u9 t9 => ?_) (fun g9 p9 k9 o9 v9 hS9 Q9 t9 => ?_) _ rfl rfl
        · replace hS9 : lS K g0 g9 p9 f9 k9 c o9 v9 (updI le c.toNat (tH B n p)) (updI st c.toNat k) co en := hS9
          have m9 := lc_m hB hK hS9
          show t_X d 47 58 lv2 [] g9 P
          refine t_0 vcl_58 rfl (ld_a l0) ?_
          refine t_0 vcl_59 rfl (pq_ro leo_154 rfl (lc_c hB hK hS9)) ?_
          show t_X d 47 62 lv2 [pvR K] g9 P
          refine t_3 vcl_62 rfl (ar := ([pvR K], [])) (pcal_w (as := []) rfl rfl rfl (lk_e hK)) ⟨by omega, Nat.le_of_ble_eq_true rfl, Nat.le_of_ble_eq_true rfl, rfl⟩ ?_
          refine vst_run hK hB hS9 (fun t10 g10 hS10 => ?_) (fun t10 => absurd t10 (by omega)) rfl
          replace hS10 : lS K g0 g10 p9 f9 k9 c o9 v9 (updI le c.toNat (tH B n p)) (updI st c.toNat k) (updI co c.toNat k9) en := hS10
          show t_X d 47 65 lv2 [] g10 P
          refine t_0 vcl_65 rfl (ld_a l0) ?_
          refine t_0 vcl_66 rfl (pq_b (by decide)) ?_
          refine t_3 vcl_68 rfl (ar := ([pvR 154, oI 40], [])) (pcal_w (as := [oI 40]) rfl rfl rfl leo_154) ⟨by omega, Nat.le_of_ble_eq_true rfl, Nat.le_of_ble_eq_true rfl, rfl⟩ ?_
          refine vxn_run hK hB hS10 (by omega) (fun g11 hS11 => ?_) rfl
          replace hS11 : lS K g0 g11 p9 f9 k9 c o9 v9 (updI le c.toNat (tH B n p)) (updI st c.toNat k) (updI co c.toNat k9) en := hS11
          show t_X d 47 71 lv2 [] g11 P
          refine t_0 vcl_71 rfl (ld_a l0) ?_
          refine t_0 vcl_72 rfl rfl ?_
          refine t_3 vcl_73 rfl (ar := ([pvR 154, oI 1], [])) (pcal_w (as := [oI 1]) rfl rfl rfl leo_154) ⟨by omega, Nat.le_of_ble_eq_true rfl, Nat.le_of_ble_eq_true rfl, rfl⟩ ?_
          refine vco_n hK (by omega) hB hS11 (by omega) ?_ rfl rfl
          show t_X d 47 76 lv2 [] g11 P
          refine t_0 vcl_76 rfl (ld_a l0) ?_
          refine t_0 vcl_77 rfl (pq_b (by decide)) ?_
          refine t_3 vcl_79 rfl (ar := ([pvR 154, oI 41], [])) (pcal_w (as := [oI 41]) rfl rfl rfl leo_154) ⟨by omega, Nat.le_of_ble_eq_true rfl, Nat.le_of_ble_eq_true rfl, rfl⟩ ?_
          refine vxn_run hK hB hS11 (by omega) (fun g12 hS12 => ?_) rfl
          replace hS12 : lS K g0 g12 p9 f9 k9 c o9 v9 (updI le c.toNat (tH B n p)) (updI st c.toNat k) (updI co c.toNat k9) en := hS12
          show t_X d 47 82 lv2 [] g12 P
          refine t_0 vcl_82 rfl (ld_a l0) ?_
          refine t_0 vcl_83 rfl (pq_ro leo_154 rfl (lc_c hB hK hS12)) ?_
          show t_X d 47 86 lv2 [pvR K] g12 P
          refine t_3 vcl_86 rfl (ar := ([pvR K], [])) (pcal_w (as := []) rfl rfl rfl (lk_e hK)) ⟨by omega, Nat.le_of_ble_eq_true rfl, Nat.le_of_ble_eq_true rfl, rfl⟩ ?_
          refine vcc_run hK hB hS12 (fun t13 g13 hS13 => ?_) (fun t13 => absurd t13 (by omega)) rfl
          replace hS13 : lS K g0 g13 p9 f9 k9 (c + 1) o9 v9 (updI le c.toNat (tH B n p)) (updI st c.toNat k) (updI co c.toNat k9) (updI en c.toNat k9) := hS13
          show t_X d 47 89 lv2 [] g13 P
          refine t_5 vcl_89 rfl rfl ?_
          have hle : lLe (tH B n p) := by have q := (lLe_i (tH B n p)); by_cases z : lLe (tH B n p); exact z; exact absurd (q.2 z) (by omega)
          exact hF _ _ _ _ _ _ _ _ _ _ _ hS13 (by omega) (Or.inr (Or.inr ⟨hle, by omega, Or.inl ⟨_, t9, rfl⟩⟩))
        · replace hS9 : lS K g0 g9 p9 0 k9 c o9 v9 (updI le c.toNat (tH B n p)) (updI st c.toNat k) co en := hS9
          have R9 := Q9
          unfold lQ at R9
          show t_X d 47 58 lv2 [] g9 P
          refine t_0 vcl_58 rfl (ld_a l0) ?_
          refine t_0 vcl_59 rfl (pq_ro leo_154 rfl (lc_c hB hK hS9)) ?_
          show t_X d 47 62 lv2 [pvR K] g9 P
          refine t_3 vcl_62 rfl (ar := ([pvR K], [])) (pcal_w (as := []) rfl rfl rfl (lk_e hK)) ⟨by omega, Nat.le_of_ble_eq_true rfl, Nat.le_of_ble_eq_true rfl, rfl⟩ ?_
          refine vst_run hK hB hS9 (fun t14 g14 hS14 => ?_) (fun t14 => absurd t14 (by omega)) rfl
          replace hS14 : lS K g0 g14 p9 0 k9 c o9 v9 (updI le c.toNat (tH B n p)) (updI st c.toNat k) (updI co c.toNat k9) en := hS14
          show t_X d 47 65 lv2 [] g14 P
          refine t_0 vcl_65 rfl (ld_a l0) ?_
          refine t_0 vcl_66 rfl (pq_b (by decide)) ?_
          refine t_3 vcl_68 rfl (ar := ([pvR 154, oI 40], [])) (pcal_w (as := [oI 40]) rfl rfl rfl leo_154) ⟨by omega, Nat.le_of_ble_eq_true rfl, Nat.le_of_ble_eq_true rfl, rfl⟩ ?_
          have b15 := hH p9 (by omega)
          have z15 := tH_n (B := B) (n := n) (p := p9)
          refine vex_run hK (by omega) hB hS14 ⟨by omega, by omega⟩ (fun t15 g15 hS15 => ?_) (fun t15 g15 hS15 => ?_) rfl rfl
          · replace hS15 : lS K g0 g15 (p9 + 1) 0 k9 c o9 v9 (updI le c.toNat (tH B n p)) (updI st c.toNat k) (updI co c.toNat k9) en := hS15
            show t_X d 47 71 lv2 [] g15 P
            refine t_0 vcl_71 rfl (ld_a l0) ?_
            refine t_0 vcl_72 rfl rfl ?_
            refine t_3 vcl_73 rfl (ar := ([pvR 154, oI 1], [])) (pcal_w (as := [oI 1]) rfl rfl rfl leo_154) ⟨by omega, Nat.le_of_ble_eq_true rfl, Nat.le_of_ble_eq_true rfl, rfl⟩ ?_
            refine (vCo_at hK hB 6 1 (by omega) (by omega)).2 _ (by omega) _ _ _ _ _ _ _ _ _ _ hS15 ⟨by omega, by omega, by omega, by omega⟩ _ (fun g16 f16 p16 k16 o16 v16 hS16 u16 t16 => ?_) (fun g16 p16 k16 o16 v16 hS16 Q16 t16 => ?_) _ rfl rfl
            · replace hS16 : lS K g0 g16 p16 f16 k16 c o16 v16 (updI le c.toNat (tH B n p)) (updI st c.toNat k) (updI co c.toNat k9) en := hS16
              have m16 := lc_m hB hK hS16
              show t_X d 47 76 lv2 [] g16 P
              refine t_0 vcl_76 rfl (ld_a l0) ?_
              refine t_0 vcl_77 rfl (pq_b (by decide)) ?_
              refine t_3 vcl_79 rfl (ar := ([pvR 154, oI 41], [])) (pcal_w (as := [oI 41]) rfl rfl rfl leo_154) ⟨by omega, Nat.le_of_ble_eq_true rfl, Nat.le_of_ble_eq_true rfl, rfl⟩ ?_
              refine vxn_run hK hB hS16 (by omega) (fun g17 hS17 => ?_) rfl
              replace hS17 : lS K g0 g17 p16 f16 k16 c o16 v16 (updI le c.toNat (tH B n p)) (updI st c.toNat k) (updI co c.toNat k9) en := hS17
              show t_X d 47 82 lv2 [] g17 P
              refine t_0 vcl_82 rfl (ld_a l0) ?_
              refine t_0 vcl_83 rfl (pq_ro leo_154 rfl (lc_c hB hK hS17)) ?_
              show t_X d 47 86 lv2 [pvR K] g17 P
              refine t_3 vcl_86 rfl (ar := ([pvR K], [])) (pcal_w (as := []) rfl rfl rfl (lk_e hK)) ⟨by omega, Nat.le_of_ble_eq_true rfl, Nat.le_of_ble_eq_true rfl, rfl⟩ ?_
              refine vcc_run hK hB hS17 (fun t18 g18 hS18 => ?_) (fun t18 => absurd t18 (by omega)) rfl
              replace hS18 : lS K g0 g18 p16 f16 k16 (c + 1) o16 v16 (updI le c.toNat (tH B n p)) (updI st c.toNat k) (updI co c.toNat k9) (updI en c.toNat k16) := hS18
              show t_X d 47 89 lv2 [] g18 P
              refine t_5 vcl_89 rfl rfl ?_
              have hle : lLe (tH B n p) := by have q := (lLe_i (tH B n p)); by_cases z : lLe (tH B n p); exact z; exact absurd (q.2 z) (by omega)
              exact hF _ _ _ _ _ _ _ _ _ _ _ hS18 (by omega) (Or.inr (Or.inr ⟨hle, by omega, Or.inr ⟨_, _, _, _, t9, Q9, Or.inr ⟨by omega, Or.inl ⟨_, t16, rfl⟩⟩⟩⟩))
            · replace hS16 : lS K g0 g16 p16 0 k16 c o16 v16 (updI le c.toNat (tH B n p)) (updI st c.toNat k) (updI co c.toNat k9) en := hS16
              have R16 := Q16
              unfold lQ at R16
              show t_X d 47 76 lv2 [] g16 P
              refine t_0 vcl_76 rfl (ld_a l0) ?_
              refine t_0 vcl_77 rfl (pq_b (by decide)) ?_
              refine t_3 vcl_79 rfl (ar := ([pvR 154, oI 41], [])) (pcal_w (as := [oI 41]) rfl rfl rfl leo_154) ⟨by omega, Nat.le_of_ble_eq_true rfl, Nat.le_of_ble_eq_true rfl, rfl⟩ ?_
              have b19 := hH p16 (by omega)
              have z19 := tH_n (B := B) (n := n) (p := p16)
              refine vex_run hK (by omega) hB hS16 ⟨by omega, by omega⟩ (fun t19 g19 hS19 => ?_) (fun t19 g19 hS19 => ?_) rfl rfl
              · replace hS19 : lS K g0 g19 (p16 + 1) 0 k16 c o16 v16 (updI le c.toNat (tH B n p)) (updI st c.toNat k) (updI co c.toNat k9) en := hS19
                show t_X d 47 82 lv2 [] g19 P
                refine t_0 vcl_82 rfl (ld_a l0) ?_
                refine t_0 vcl_83 rfl (pq_ro leo_154 rfl (lc_c hB hK hS19)) ?_
                show t_X d 47 86 lv2 [pvR K] g19 P
                refine t_3 vcl_86 rfl (ar := ([pvR K], [])) (pcal_w (as := []) rfl rfl rfl (lk_e hK)) ⟨by omega, Nat.le_of_ble_eq_true rfl, Nat.le_of_ble_eq_true rfl, rfl⟩ ?_
                refine vcc_run hK hB hS19 (fun t20 g20 hS20 => ?_) (fun t20 => absurd t20 (by omega)) rfl
                replace hS20 : lS K g0 g20 (p16 + 1) 0 k16 (c + 1) o16 v16 (updI le c.toNat (tH B n p)) (updI st c.toNat k) (updI co c.toNat k9) (updI en c.toNat k16) := hS20
                show t_X d 47 89 lv2 [] g20 P
                refine t_5 vcl_89 rfl rfl ?_
                have hle : lLe (tH B n p) := by have q := (lLe_i (tH B n p)); by_cases z : lLe (tH B n p); exact z; exact absurd (q.2 z) (by omega)
                exact hO _ _ _ _ _ _ _ _ _ hS20 ⟨by omega, by omega, by omega, by omega⟩ (by omega) (Or.inr (Or.inr ⟨hle, by omega, Or.inr ⟨_, _, _, _, t9, Q9, Or.inr ⟨by omega, Or.inr ⟨_, _, _, _, t16, Q16, Or.inr ⟨by omega, rfl⟩⟩⟩⟩⟩))
              · replace hS19 : lS K g0 g19 p16 (-1000 - p16) k16 c o16 v16 (updI le c.toNat (tH B n p)) (updI st c.toNat k) (updI co c.toNat k9) en := hS19
                show t_X d 47 82 lv2 [] g19 P
                refine t_0 vcl_82 rfl (ld_a l0) ?_
                refine t_0 vcl_83 rfl (pq_ro leo_154 rfl (lc_c hB hK hS19)) ?_
                show t_X d 47 86 lv2 [pvR K] g19 P
                refine t_3 vcl_86 rfl (ar := ([pvR K], [])) (pcal_w (as := []) rfl rfl rfl (lk_e hK)) ⟨by omega, Nat.le_of_ble_eq_true rfl, Nat.le_of_ble_eq_true rfl, rfl⟩ ?_
                refine vcc_run hK hB hS19 (fun t21 g21 hS21 => ?_) (fun t21 => absurd t21 (by omega)) rfl
                replace hS21 : lS K g0 g21 p16 (-1000 - p16) k16 (c + 1) o16 v16 (updI le c.toNat (tH B n p)) (updI st c.toNat k) (updI co c.toNat k9) (updI en c.toNat k16) := hS21
                show t_X d 47 89 lv2 [] g21 P
                refine t_5 vcl_89 rfl rfl ?_
                have hle : lLe (tH B n p) := by have q := (lLe_i (tH B n p)); by_cases z : lLe (tH B n p); exact z; exact absurd (q.2 z) (by omega)
                exact hF _ _ _ _ _ _ _ _ _ _ _ hS21 (by omega) (Or.inr (Or.inr ⟨hle, by omega, Or.inr ⟨_, _, _, _, t9, Q9, Or.inr ⟨by omega, Or.inr ⟨_, _, _, _, t16, Q16, Or.inl ⟨by omega, rfl⟩⟩⟩⟩⟩))
          · replace hS15 : lS K g0 g15 p9 (-1000 - p9) k9 c o9 v9 (updI le c.toNat (tH B n p)) (updI st c.toNat k) (updI co c.toNat k9) en := hS15
            show t_X d 47 71 lv2 [] g15 P
            refine t_0 vcl_71 rfl (ld_a l0) ?_
            refine t_0 vcl_72 rfl rfl ?_
            refine t_3 vcl_73 rfl (ar := ([pvR 154, oI 1], [])) (pcal_w (as := [oI 1]) rfl rfl rfl leo_154) ⟨by omega, Nat.le_of_ble_eq_true rfl, Nat.le_of_ble_eq_true rfl, rfl⟩ ?_
            refine vco_n hK (by omega) hB hS15 (by omega) ?_ rfl rfl
            show t_X d 47 76 lv2 [] g15 P
            refine t_0 vcl_76 rfl (ld_a l0) ?_
            refine t_0 vcl_77 rfl (pq_b (by decide)) ?_
            refine t_3 vcl_79 rfl (ar := ([pvR 154, oI 41], [])) (pcal_w (as := [oI 41]) rfl rfl rfl leo_154) ⟨by omega, Nat.le_of_ble_eq_true rfl, Nat.le_of_ble_eq_true rfl, rfl⟩ ?_
            refine vxn_run hK hB hS15 (by omega) (fun g22 hS22 => ?_) rfl
            replace hS22 : lS K g0 g22 p9 (-1000 - p9) k9 c o9 v9 (updI le c.toNat (tH B n p)) (updI st c.toNat k) (updI co c.toNat k9) en := hS22
            show t_X d 47 82 lv2 [] g22 P
            refine t_0 vcl_82 rfl (ld_a l0) ?_
            refine t_0 vcl_83 rfl (pq_ro leo_154 rfl (lc_c hB hK hS22)) ?_
            show t_X d 47 86 lv2 [pvR K] g22 P
            refine t_3 vcl_86 rfl (ar := ([pvR K], [])) (pcal_w (as := []) rfl rfl rfl (lk_e hK)) ⟨by omega, Nat.le_of_ble_eq_true rfl, Nat.le_of_ble_eq_true rfl, rfl⟩ ?_
            refine vcc_run hK hB hS22 (fun t23 g23 hS23 => ?_) (fun t23 => absurd t23 (by omega)) rfl
            replace hS23 : lS K g0 g23 p9 (-1000 - p9) k9 (c + 1) o9 v9 (updI le c.toNat (tH B n p)) (updI st c.toNat k) (updI co c.toNat k9) (updI en c.toNat k9) := hS23
            show t_X d 47 89 lv2 [] g23 P
            refine t_5 vcl_89 rfl rfl ?_
            have hle : lLe (tH B n p) := by have q := (lLe_i (tH B n p)); by_cases z : lLe (tH B n p); exact z; exact absurd (q.2 z) (by omega)
            exact hF _ _ _ _ _ _ _ _ _ _ _ hS23 (by omega) (Or.inr (Or.inr ⟨hle, by omega, Or.inr ⟨_, _, _, _, t9, Q9, Or.inl ⟨by omega, rfl⟩⟩⟩))
      · show t_X d 47 34 lv2 [oI 0] g P
        refine tz_ne vcl_34 (by decide) ⟨by omega, by omega⟩ (fun c24 => absurd c24 (by omega)) (fun c24 => ?_)
        show t_X d 47 37 lv2 [] g P
        refine t_0 vcl_37 rfl (ld_a l0) ?_
        refine t_0 vcl_38 rfl rfl ?_
        refine t_3 vcl_39 rfl (ar := ([pvR 154, oI 4], [])) (pcal_w (as := [oI 4]) rfl rfl rfl leo_154) ⟨by omega, Nat.le_of_ble_eq_true rfl, Nat.le_of_ble_eq_true rfl, rfl⟩ ?_
        refine vfl_run hK hB hS ⟨by omega, by omega⟩ (fun g25 hS25 => ?_) rfl rfl
        replace hS25 : lS K g0 g25 p (-1000 * 4 - p) k c o v le st co en := hS25
        show t_X d 47 42 lv2 [] g25 P
        refine t_5 vcl_42 rfl rfl ?_
        rw [show -1000 * 4 - p = -4000 - p by omega] at hS25
        exact hF _ _ _ _ _ _ _ _ _ _ _ hS25 (by omega) (Or.inr (Or.inl ⟨by have q := (lLe_i (tH B n p)); by_cases z : lLe (tH B n p); exact z; exact absurd (q.2 z) (by omega), by omega, rfl⟩))
    · show t_X d 47 20 lv2 [] g P
      refine t_0 vcl_20 rfl (ld_a l0) ?_
      refine t_0 vcl_21 rfl rfl ?_
      refine t_3 vcl_22 rfl (ar := ([pvR 154, oI 1], [])) (pcal_w (as := [oI 1]) rfl rfl rfl leo_154) ⟨by omega, Nat.le_of_ble_eq_true rfl, Nat.le_of_ble_eq_true rfl, rfl⟩ ?_
      refine vfl_run hK hB hS ⟨by omega, by omega⟩ (fun g26 hS26 => ?_) rfl rfl
      replace hS26 : lS K g0 g26 p (-1000 * 1 - p) k c o v le st co en := hS26
      show t_X d 47 25 lv2 [] g26 P
      refine t_5 vcl_25 rfl rfl ?_
      rw [show -1000 * 1 - p = -1000 - p by omega] at hS26
      exact hF _ _ _ _ _ _ _ _ _ _ _ hS26 (by omega) (Or.inl ⟨fun z => absurd ((lLe_i (tH B n p)).1 z) (by first | omega | (rw [show tH B n p = -1 by omega]; decide)), rfl⟩)
set_option maxHeartbeats 4000000 in
theorem vcl_n {d : Nat} {K : Nat} (hK : lK K) (hd : 10 ≤ d) {g0 g : pH} {B : tC} {n : Int} (hB : lB K g0 B n) {p f k c : Int} {o v le st co en : tC} (hS : lS K g0 g p f k c o v le st co en) (hf0 : f < 0) {P : Option pv × pH → Prop} (hP : ∀ (g1 : pH) (p1 k1 c1 : Int) (o1 v1 le1 st1 co1 en1 : tC), lS K g0 g1 p1 f k1 c1 o1 v1 le1 st1 co1 en1 → P (none, g1)) {lv : List (Nat × pv)} (l0 : px_lg lv 0 = some (pvR 154)) : t_X d 47 0 lv [] g P := by
  obtain ⟨hn, hp, hf, hk, hc, hH⟩ := lc_m hB hK hS
  refine t_0 vcl_0 rfl (ld_a l0) ?_
  refine t_3 vcl_1 rfl (ar := ([pvR 154], [])) (pcal_w (as := []) rfl rfl rfl leo_154) ⟨by omega, Nat.le_of_ble_eq_true rfl, Nat.le_of_ble_eq_true rfl, rfl⟩ ?_
  refine vsg_run hK hB hS ?_ rfl
  have b1 := hH p (by omega)
  have z1 := tH_n (B := B) (n := n) (p := p)
  show t_X d 47 4 lv [oI (tH B n p)] g P
  refine t_2 vcl_4 rfl (w := (px_s1 lv 1 (oI (tH B n p)), [])) rfl ?_
  replace l0 : px_lg (px_s1 lv 1 (oI (tH B n p))) 0 = some (pvR 154) := s1_ne (by decide) (fun _ => rfl) l0
  have l1 : px_lg (px_s1 lv 1 (oI (tH B n p))) 1 = some (oI (tH B n p)) := s1_eq
  generalize px_s1 lv 1 (oI (tH B n p)) = lv2 at l0 l1 ⊢
  show t_X d 47 5 lv2 [] g P
  refine t_0 vcl_5 rfl (ld_i l1) ?_
  refine t_0 vcl_6 rfl rfl ?_
  refine tb_eq vcl_7 (by decide) ⟨by omega, by omega⟩ ⟨by omega, by omega⟩ (fun c3 => ?_) (fun c3 => ?_)
  · show t_X d 47 20 lv2 [] g P
    refine t_0 vcl_20 rfl (ld_a l0) ?_
    refine t_0 vcl_21 rfl rfl ?_
    refine t_3 vcl_22 rfl (ar := ([pvR 154, oI 1], [])) (pcal_w (as := [oI 1]) rfl rfl rfl leo_154) ⟨by omega, Nat.le_of_ble_eq_true rfl, Nat.le_of_ble_eq_true rfl, rfl⟩ ?_
    refine vfn_run hK hB hS (by omega) ?_ rfl
    show t_X d 47 25 lv2 [] g P
    refine t_5 vcl_25 rfl rfl ?_
    exact hP _ _ _ _ _ _ _ _ _ _ hS
  · show t_X d 47 10 lv2 [] g P
    refine t_0 vcl_10 rfl rfl ?_
    refine t_0 vcl_12 rfl (ld_i l1) ?_
    refine t_0 vcl_13 rfl (pq_i2c ⟨by omega, by omega⟩) ?_
    refine tx_ix 0 (by decide) vcl_14 rfl rfl (by omega) (Nat.le_of_ble_eq_true rfl) ⟨by omega, by omega⟩ ?_
    have y9 : -1 ≤ lIx 0 (tH B n p) ∧ lIx 0 (tH B n p) ≤ 7 := by unfold lIx; rw [if_pos rfl]; omega
    show t_X d 47 17 lv2 [oI (lIx 0 (tH B n p))] g P
    refine tz_ge vcl_17 (by decide) ⟨by omega, by omega⟩ (fun c5 => ?_) (fun c5 => ?_)
    · show t_X d 47 26 lv2 [] g P
      refine t_0 vcl_26 rfl (ld_a l0) ?_
      refine t_0 vcl_27 rfl (pq_ro leo_154 rfl (lc_c hB hK hS)) ?_
      show t_X d 47 30 lv2 [pvR K] g P
      refine t_0 vcl_30 rfl (ld_i l1) ?_
      refine t_3 vcl_31 rfl (ar := ([pvR K, oI (tH B n p)], [])) (pcal_w (as := [oI (tH B n p)]) rfl rfl rfl (lk_e hK)) ⟨by omega, Nat.le_of_ble_eq_true rfl, Nat.le_of_ble_eq_true rfl, rfl⟩ ?_
      refine voc_run hK hB hS ⟨by omega, by omega⟩ (fun t6 g6 hS6 => ?_) (fun t6 => ?_) rfl rfl
      · replace hS6 : lS K g0 g6 p f k c o v (updI le c.toNat (tH B n p)) (updI st c.toNat k) co en := hS6
        show t_X d 47 34 lv2 [oI 1] g6 P
        refine tz_ne vcl_34 (by decide) ⟨by omega, by omega⟩ (fun c7 => ?_) (fun c7 => absurd c7 (by omega))
        show t_X d 47 43 lv2 [] g6 P
        refine t_0 vcl_43 rfl (ld_a l0) ?_
        refine t_0 vcl_44 rfl rfl ?_
        refine t_0 vcl_45 rfl (pq_cv leo_154 rfl (show cF g6 154 2 = p from S_f hS6 0 (Nat.le_of_ble_eq_true rfl))) ?_
        show t_X d 47 48 lv2 [oI (p), pvR 154] g6 P
        refine t_0 vcl_48 rfl rfl ?_
        refine t_0 vcl_49 rfl pq_add ?_
        refine ts_f (n := 0) rfl rfl (lk_f0 hK) vcl_50 rfl leo_154 hS6 (lk_w0 hK) lgy_154_2 (by decide) ⟨by omega, by omega⟩ (fun g8 hS8 => ?_)
        replace hS8 : lS K g0 g8 (p + 1) f k c o v (updI le c.toNat (tH B n p)) (updI st c.toNat k) co en := hS8
        show t_X d 47 53 lv2 [] g8 P
        refine t_0 vcl_53 rfl (ld_a l0) ?_
        refine t_0 vcl_54 rfl rfl ?_
        refine t_3 vcl_55 rfl (ar := ([pvR 154, oI 0], [])) (pcal_w (as := [oI 0]) rfl rfl rfl leo_154) ⟨by omega, Nat.le_of_ble_eq_true rfl, Nat.le_of_ble_eq_true rfl, rfl⟩ ?_
        refine vsu_n hK (by omega) hB hS8 hf0 ?_ rfl rfl
        show t_X d 47 58 lv2 [] g8 P
        refine t_0 vcl_58 rfl (ld_a l0) ?_
        refine t_0 vcl_59 rfl (pq_ro leo_154 rfl (lc_c hB hK hS8)) ?_
        show t_X d 47 62 lv2 [pvR K] g8 P
        refine t_3 vcl_62 rfl (ar := ([pvR K], [])) (pcal_w (as := []) rfl rfl rfl (lk_e hK)) ⟨by omega, Nat.le_of_ble_eq_true rfl, Nat.le_of_ble_eq_true rfl, rfl⟩ ?_
        refine vst_run hK hB hS8 (fun t9 g9 hS9 => ?_) (fun t9 => absurd t9 (by omega)) rfl
        replace hS9 : lS K g0 g9 (p + 1) f k c o v (updI le c.toNat (tH B n p)) (updI st c.toNat k) (updI co c.toNat k) en := hS9
        show t_X d 47 65 lv2 [] g9 P
        refine t_0 vcl_65 rfl (ld_a l0) ?_
        refine t_0 vcl_66 rfl (pq_b (by decide)) ?_
        refine t_3 vcl_68 rfl (ar := ([pvR 154, oI 40], [])) (pcal_w (as := [oI 40]) rfl rfl rfl leo_154) ⟨by omega, Nat.le_of_ble_eq_true rfl, Nat.le_of_ble_eq_true rfl, rfl⟩ ?_
        refine vxn_run hK hB hS9 (by omega) (fun g10 hS10 => ?_) rfl
        replace hS10 : lS K g0 g10 (p + 1) f k c o v (updI le c.toNat (tH B n p)) (updI st c.toNat k) (updI co c.toNat k) en := hS10
        show t_X d 47 71 lv2 [] g10 P
        refine t_0 vcl_71 rfl (ld_a l0) ?_
        refine t_0 vcl_72 rfl rfl ?_
        refine t_3 vcl_73 rfl (ar := ([pvR 154, oI 1], [])) (pcal_w (as := [oI 1]) rfl rfl rfl leo_154) ⟨by omega, Nat.le_of_ble_eq_true rfl, Nat.le_of_ble_eq_true rfl, rfl⟩ ?_
        refine vco_n hK (by omega) hB hS10 hf0 ?_ rfl rfl
        show t_X d 47 76 lv2 [] g10 P
        refine t_0 vcl_76 rfl (ld_a l0) ?_
        refine t_0 vcl_77 rfl (pq_b (by decide)) ?_
        refine t_3 vcl_79 rfl (ar := ([pvR 154, oI 41], [])) (pcal_w (as := [oI 41]) rfl rfl rfl leo_154) ⟨by omega, Nat.le_of_ble_eq_true rfl, Nat.le_of_ble_eq_true rfl, rfl⟩ ?_
        refine vxn_run hK hB hS10 (by omega) (fun g11 hS11 => ?_) rfl
        replace hS11 : lS K g0 g11 (p + 1) f k c o v (updI le c.toNat (tH B n p)) (updI st c.toNat k) (updI co c.toNat k) en := hS11
        show t_X d 47 82 lv2 [] g11 P
        refine t_0 vcl_82 rfl (ld_a l0) ?_
        refine t_0 vcl_83 rfl (pq_ro leo_154 rfl (lc_c hB hK hS11)) ?_
        show t_X d 47 86 lv2 [pvR K] g11 P
        refine t_3 vcl_86 rfl (ar := ([pvR K], [])) (pcal_w (as := []) rfl rfl rfl (lk_e hK)) ⟨by omega, Nat.le_of_ble_eq_true rfl, Nat.le_of_ble_eq_true rfl, rfl⟩ ?_
        refine vcc_run hK hB hS11 (fun t12 g12 hS12 => ?_) (fun t12 => absurd t12 (by omega)) rfl
        replace hS12 : lS K g0 g12 (p + 1) f k (c + 1) o v (updI le c.toNat (tH B n p)) (updI st c.toNat k) (updI co c.toNat k) (updI en c.toNat k) := hS12
        show t_X d 47 89 lv2 [] g12 P
        refine t_5 vcl_89 rfl rfl ?_
        exact hP _ _ _ _ _ _ _ _ _ _ hS12
      · show t_X d 47 34 lv2 [oI 0] g P
        refine tz_ne vcl_34 (by decide) ⟨by omega, by omega⟩ (fun c13 => absurd c13 (by omega)) (fun c13 => ?_)
        show t_X d 47 37 lv2 [] g P
        refine t_0 vcl_37 rfl (ld_a l0) ?_
        refine t_0 vcl_38 rfl rfl ?_
        refine t_3 vcl_39 rfl (ar := ([pvR 154, oI 4], [])) (pcal_w (as := [oI 4]) rfl rfl rfl leo_154) ⟨by omega, Nat.le_of_ble_eq_true rfl, Nat.le_of_ble_eq_true rfl, rfl⟩ ?_
        refine vfn_run hK hB hS (by omega) ?_ rfl
        show t_X d 47 42 lv2 [] g P
        refine t_5 vcl_42 rfl rfl ?_
        exact hP _ _ _ _ _ _ _ _ _ _ hS
    · show t_X d 47 20 lv2 [] g P
      refine t_0 vcl_20 rfl (ld_a l0) ?_
      refine t_0 vcl_21 rfl rfl ?_
      refine t_3 vcl_22 rfl (ar := ([pvR 154, oI 1], [])) (pcal_w (as := [oI 1]) rfl rfl rfl leo_154) ⟨by omega, Nat.le_of_ble_eq_true rfl, Nat.le_of_ble_eq_true rfl, rfl⟩ ?_
      refine vfn_run hK hB hS (by omega) ?_ rfl
      show t_X d 47 25 lv2 [] g P
      refine t_5 vcl_25 rfl rfl ?_
      exact hP _ _ _ _ _ _ _ _ _ _ hS
