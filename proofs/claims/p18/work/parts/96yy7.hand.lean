/-! hand: sums of what is asked, what is alike in the reference (printed by wip/e2/x21.py) -/
theorem vaa_0 : xe_look (xc 167) 0 = some (.iconst 0, 1, 0, 0, 0) := by decide +kernel
theorem vaa_1 : xe_look (xc 167) 1 = some (.istore 4, 2, 0, 0, 0) := by decide +kernel
theorem vaa_3 : xe_look (xc 167) 3 = some (.iload 4, 2, 0, 0, 0) := by decide +kernel
theorem vaa_5 : xe_look (xc 167) 5 = some (.bipush 25, 2, 0, 0, 0) := by decide +kernel
theorem vaa_7 : xe_look (xc 167) 7 = some (.if_icmp .ge 42, 3, 0, 0, 0) := by decide +kernel
theorem vaa_10 : xe_look (xc 167) 10 = some (.aload_n 0, 1, 0, 0, 0) := by decide +kernel
theorem vaa_11 : xe_look (xc 167) 11 = some (.iload_n 1, 1, 0, 0, 0) := by decide +kernel
theorem vaa_12 : xe_look (xc 167) 12 = some (.iload_n 2, 1, 0, 0, 0) := by decide +kernel
theorem vaa_13 : xe_look (xc 167) 13 = some (.iload 4, 2, 0, 0, 0) := by decide +kernel
theorem vaa_15 : xe_look (xc 167) 15 = some (.iconst 5, 1, 0, 0, 0) := by decide +kernel
theorem vaa_16 : xe_look (xc 167) 16 = some (.irem, 1, 0, 0, 0) := by decide +kernel
theorem vaa_17 : xe_look (xc 167) 17 = some (.iload 4, 2, 0, 0, 0) := by decide +kernel
theorem vaa_19 : xe_look (xc 167) 19 = some (.iconst 5, 1, 0, 0, 0) := by decide +kernel
theorem vaa_20 : xe_look (xc 167) 20 = some (.idiv, 1, 0, 0, 0) := by decide +kernel
theorem vaa_21 : xe_look (xc 167) 21 = some (.invokevirtual 226, 3, 0, 250, 1116) := by decide +kernel
theorem vaa_24 : xe_look (xc 167) 24 = some (.aload_n 0, 1, 0, 0, 0) := by decide +kernel
theorem vaa_25 : xe_look (xc 167) 25 = some (.iload_n 1, 1, 0, 0, 0) := by decide +kernel
theorem vaa_26 : xe_look (xc 167) 26 = some (.iload_n 3, 1, 0, 0, 0) := by decide +kernel
theorem vaa_27 : xe_look (xc 167) 27 = some (.iload 4, 2, 0, 0, 0) := by decide +kernel
theorem vaa_29 : xe_look (xc 167) 29 = some (.iconst 5, 1, 0, 0, 0) := by decide +kernel
theorem vaa_30 : xe_look (xc 167) 30 = some (.irem, 1, 0, 0, 0) := by decide +kernel
theorem vaa_31 : xe_look (xc 167) 31 = some (.iload 4, 2, 0, 0, 0) := by decide +kernel
theorem vaa_33 : xe_look (xc 167) 33 = some (.iconst 5, 1, 0, 0, 0) := by decide +kernel
theorem vaa_34 : xe_look (xc 167) 34 = some (.idiv, 1, 0, 0, 0) := by decide +kernel
theorem vaa_35 : xe_look (xc 167) 35 = some (.invokevirtual 226, 3, 0, 250, 1116) := by decide +kernel
theorem vaa_38 : xe_look (xc 167) 38 = some (.if_icmp .eq 5, 3, 0, 0, 0) := by decide +kernel
theorem vaa_41 : xe_look (xc 167) 41 = some (.iconst 0, 1, 0, 0, 0) := by decide +kernel
theorem vaa_42 : xe_look (xc 167) 42 = some (.ireturn, 1, 0, 0, 0) := by decide +kernel
theorem vaa_43 : xe_look (xc 167) 43 = some (.iinc 4 1, 3, 0, 0, 0) := by decide +kernel
theorem vaa_46 : xe_look (xc 167) 46 = some (.goto (-43), 3, 0, 0, 0) := by decide +kernel
theorem vaa_49 : xe_look (xc 167) 49 = some (.iconst 1, 1, 0, 0, 0) := by decide +kernel
theorem vaa_50 : xe_look (xc 167) 50 = some (.ireturn, 1, 0, 0, 0) := by decide +kernel
theorem voo_0 : xe_look (xc 23) 0 = some (.iconst 0, 1, 0, 0, 0) := by decide +kernel
theorem voo_1 : xe_look (xc 23) 1 = some (.istore_n 3, 1, 0, 0, 0) := by decide +kernel
theorem voo_2 : xe_look (xc 23) 2 = some (.iconst 0, 1, 0, 0, 0) := by decide +kernel
theorem voo_3 : xe_look (xc 23) 3 = some (.istore 4, 2, 0, 0, 0) := by decide +kernel
theorem voo_5 : xe_look (xc 23) 5 = some (.iload 4, 2, 0, 0, 0) := by decide +kernel
theorem voo_7 : xe_look (xc 23) 7 = some (.bipush 8, 2, 0, 0, 0) := by decide +kernel
theorem voo_9 : xe_look (xc 23) 9 = some (.if_icmp .ge 32, 3, 0, 0, 0) := by decide +kernel
theorem voo_12 : xe_look (xc 23) 12 = some (.iload_n 3, 1, 0, 0, 0) := by decide +kernel
theorem voo_13 : xe_look (xc 23) 13 = some (.iload_n 2, 1, 0, 0, 0) := by decide +kernel
theorem voo_14 : xe_look (xc 23) 14 = some (.iload 4, 2, 0, 0, 0) := by decide +kernel
theorem voo_16 : xe_look (xc 23) 16 = some (.ishr, 1, 0, 0, 0) := by decide +kernel
theorem voo_17 : xe_look (xc 23) 17 = some (.iconst 1, 1, 0, 0, 0) := by decide +kernel
theorem voo_18 : xe_look (xc 23) 18 = some (.iand, 1, 0, 0, 0) := by decide +kernel
theorem voo_19 : xe_look (xc 23) 19 = some (.ifCond .eq 13, 3, 0, 0, 0) := by decide +kernel
theorem voo_22 : xe_look (xc 23) 22 = some (.aload_n 0, 1, 0, 0, 0) := by decide +kernel
theorem voo_23 : xe_look (xc 23) 23 = some (.aload_n 1, 1, 0, 0, 0) := by decide +kernel
theorem voo_24 : xe_look (xc 23) 24 = some (.iload 4, 2, 0, 0, 0) := by decide +kernel
theorem voo_26 : xe_look (xc 23) 26 = some (.invokevirtual 55, 3, 0, 22, 829) := by decide +kernel
theorem voo_29 : xe_look (xc 23) 29 = some (.goto 4, 3, 0, 0, 0) := by decide +kernel
theorem voo_32 : xe_look (xc 23) 32 = some (.iconst 0, 1, 0, 0, 0) := by decide +kernel
theorem voo_33 : xe_look (xc 23) 33 = some (.iadd, 1, 0, 0, 0) := by decide +kernel
theorem voo_34 : xe_look (xc 23) 34 = some (.istore_n 3, 1, 0, 0, 0) := by decide +kernel
theorem voo_35 : xe_look (xc 23) 35 = some (.iinc 4 1, 3, 0, 0, 0) := by decide +kernel
theorem voo_38 : xe_look (xc 23) 38 = some (.goto (-33), 3, 0, 0, 0) := by decide +kernel
theorem voo_41 : xe_look (xc 23) 41 = some (.iload_n 3, 1, 0, 0, 0) := by decide +kernel
theorem voo_42 : xe_look (xc 23) 42 = some (.ireturn, 1, 0, 0, 0) := by decide +kernel
theorem gS_g : ∀ f a b : Nat, gD f a b → gS f a b = Nat.gcd a b := by
  intro f
  induction f with
  | zero =>
    intro a b h
    have h : b = 0 := h
    subst h
    show a = _
    rw [Nat.gcd_zero_right]
  | succ f ih =>
    intro a b h
    unfold gS
    by_cases hb : b = 0
    · rw [if_pos hb, hb, Nat.gcd_zero_right]
    · rw [if_neg hb, ih _ _ (h.resolve_left hb), Nat.gcd_comm b (a % b), ← Nat.gcd_rec, Nat.gcd_comm]
def fb : Nat → Nat
  | 0 => 0
  | 1 => 1
  | n + 2 => fb (n + 1) + fb n
theorem fb_100 : 9223372036854775807 < fb 100 := by decide +kernel
theorem gD_f : ∀ f a b : Nat, b < a → ¬ gD f a b → fb (f + 1) ≤ b ∧ fb (f + 2) ≤ a := by
  intro f
  induction f with
  | zero =>
    intro a b h1 h2
    have h2 : ¬ b = 0 := h2
    have e1 : fb (0 + 1) = 1 := rfl
    have e2 : fb (0 + 2) = 1 := rfl
    omega
  | succ f ih =>
    intro a b h1 h2
    have hb : b ≠ 0 := fun z => h2 (Or.inl z)
    have h3 := Nat.mod_lt a (show 0 < b by omega)
    obtain ⟨i1, i2⟩ := ih b (a % b) h3 (fun z => h2 (Or.inr z))
    have e1 := Nat.div_add_mod a b
    have e2 : 1 ≤ a / b := (Nat.le_div_iff_mul_le (by omega)).mpr (by omega)
    have e3 : b * 1 ≤ b * (a / b) := Nat.mul_le_mul_left b e2
    refine ⟨i2, ?_⟩
    show fb (f + 2) + fb (f + 1) ≤ a
    omega
theorem gD_l {a b : Nat} (hb : b ≤ 9223372036854775807) : gD 100 a b := by
  by_cases hz : b = 0
  · exact Or.inl hz
  · refine Or.inr ?_
    apply Classical.byContradiction
    intro h
    have h3 := Nat.mod_lt a (show 0 < b by omega)
    have i1 : fb 100 ≤ a % b := (gD_f 99 b (a % b) h3 h).1
    have i2 := fb_100
    omega
/-- a fraction without a common divisor -/
def rdA (a b : Nat) : Nat := a / Nat.gcd a b
def rdB (a b : Nat) : Nat := b / Nat.gcd a b
theorem rd_s {g x y : Nat} (hg : 0 < g) : rdA (g * x) (g * y) = rdA x y ∧ rdB (g * x) (g * y) = rdB x y := by
  unfold rdA rdB
  rw [Nat.gcd_mul_left]
  exact ⟨Nat.mul_div_mul_left _ _ hg, Nat.mul_div_mul_left _ _ hg⟩
theorem rd_m {a b : Nat} (h : 0 < b) : Nat.gcd a b * rdA a b = a ∧ Nat.gcd a b * rdB a b = b ∧ 0 < Nat.gcd a b := by
  unfold rdA rdB
  exact ⟨Nat.mul_div_cancel' (Nat.gcd_dvd_left a b), Nat.mul_div_cancel' (Nat.gcd_dvd_right a b), Nat.gcd_pos_of_pos_right a h⟩
/-- one slide more: adding up reduced comes to the reduced sum -/
theorem rd_n {a b t r : Nat} (h : 0 < b) : rdA (rdA a b * t + rdB a b * r) (rdB a b * t) = rdA (a * t + b * r) (b * t) ∧ rdB (rdA a b * t + rdB a b * r) (rdB a b * t) = rdB (a * t + b * r) (b * t) := by
  obtain ⟨e1, e2, e3⟩ := rd_m (a := a) h
  have k := rd_s (g := Nat.gcd a b) (x := rdA a b * t + rdB a b * r) (y := rdB a b * t) e3
  rw [Nat.mul_add, ← Nat.mul_assoc, ← Nat.mul_assoc, ← Nat.mul_assoc, e1, e2] at k
  exact ⟨k.1.symm, k.2.symm⟩

theorem pq_hb {d x y : Nat} {lv : List (Nat × pv)} {h : pH} {r : List pv} {a b : Int32} {e : Int} (q : a &&& b = Int32.ofInt e) : px_push eL d none .iand x y lv (.inl b :: .inl a :: r) h = some (oI e :: r) := by
  show some ((.inl (a &&& b) : pv) :: r) = _
  rw [q]
theorem xo_255 : ∀ n : Nat, n < 256 → (Int32.ofInt 255 ^^^ Int32.ofInt (n : Int)) = Int32.ofInt (255 - (n : Int)) := by decide +kernel
theorem bt_255 : ∀ n : Nat, n < 256 → ∀ w : Nat, w < 8 → ((Int32.ofInt (255 - (n : Int)) >>> (Int32.ofInt (w : Int) &&& 31)) &&& Int32.ofInt 1) = Int32.ofInt (if n.testBit w then 0 else 1) := by decide +kernel
theorem bt_all : ∀ w : Nat, w < 8 → ((Int32.ofInt 255 >>> (Int32.ofInt (w : Int) &&& 31)) &&& Int32.ofInt 1) = Int32.ofInt 1 := by decide +kernel
theorem tb_ad : ∀ k : Nat, k < 8 → ∀ b : Nat, b < 2 ^ k → ∀ w : Nat, w < 8 → (b + 2 ^ k).testBit w = (b.testBit w || w == k) := by decide +kernel
theorem alB_t {pic : tC} : ∀ k : Nat, k ≤ 8 → ∀ w : Nat, w < 8 → (alB pic k).toNat.testBit w = (decide (w < k) && alN pic w) := by
  intro k
  induction k with
  | zero => intro _ w _; show Nat.testBit 0 w = _; rw [Nat.zero_testBit]; rfl
  | succ k ih =>
    intro hk w hw
    have b := alB_b (pic := pic) k
    have i := ih (by omega) w hw
    cases q : alN pic k with
    | true =>
      rw [alB_y q, show (alB pic k + ((2 ^ k : Nat) : Int)).toNat = (alB pic k).toNat + 2 ^ k by omega, tb_ad k (by omega) _ (by omega) w hw, i]
      by_cases e : w = k
      · subst e
        simp [q]
      · have e1 : (w == k) = false := by simp [e]
        have e2 : decide (w < k + 1) = decide (w < k) := by
          apply decide_eq_decide.mpr
          omega
        rw [e1, e2, Bool.or_false]
    | false =>
      rw [alB_f q, i]
      by_cases e : w = k
      · subst e
        simp [q]
      · have e2 : decide (w < k + 1) = decide (w < k) := by
          apply decide_eq_decide.mpr
          omega
        rw [e2]
theorem bt_al {pic : tC} : ∀ w : Nat, w < 8 → ((Int32.ofInt (255 - alB pic 8) >>> (Int32.ofInt (w : Int) &&& 31)) &&& Int32.ofInt 1) = Int32.ofInt (if !alN pic w then 1 else 0) := by
  intro w hw
  have b := alB_b (pic := pic) 8
  have h2 : ((2 ^ 8 : Nat) : Int) = 256 := rfl
  have := bt_255 (alB pic 8).toNat (by omega) w hw
  rw [Int.toNat_of_nonneg b.1, alB_t 8 (Nat.le_refl _) w hw] at this
  rw [this]
  have e : decide (w < 8) = true := decide_eq_true hw
  rw [e, Bool.true_and]
  cases alN pic w <;> rfl
theorem yfeo_164 : eL[164]? = some (0, 2) := by decide +kernel
theorem yfeo_196 : eL[196]? = some (0, 12) := by decide +kernel
theorem voo_loop {K : Nat} (hK : lK K) {m : Nat} (hm : m < 32) {ki ma ta wo : Int} {k1 c : Int} {o v le st co en : tC} {d : Nat} (hd : 6 ≤ d) {g0 : pH} (hs : sdC g0 m ki ma ta wo) (r0 : g0.2.2.1 164 0 = some K) (hL : rLc g0 K k1 c o v le st co en) {W : Int} {bb : Nat → Bool} (hw : ∀ w : Nat, w < 8 → ((Int32.ofInt W >>> (Int32.ofInt (w : Int) &&& 31)) &&& Int32.ofInt 1) = Int32.ofInt (if bb w then 1 else 0)) {a : Nat → Int} (ea : a = (fun w : Nat => aV o v (qF m ki ma ta wo w) le st co en c 119 99)) {P : Option pv × pH → Prop} (hP : ∀ g1 : pH, J_ (cW K) g0 g1 → P (some (oI (oS bb a 8)), g1)) : ∀ (r k : Nat) (g : pH) (lv : List (Nat × pv)), 8 - k ≤ r → k ≤ 8 → J_ (cW K) g0 g → px_lg lv 0 = some (pvR 164) → px_lg lv 1 = some (pvR (4 + 2 * m)) → px_lg lv 2 = some (oI W) → px_lg lv 3 = some (oI (oS bb a k)) → px_lg lv 4 = some (oI (k : Int)) → t_X d 23 5 lv [] g P := by
  intro r
  induction r with
  | zero =>
    intro k g lv hr hk2 hJ l0 l1 l2 l3 l4
    refine t_0 voo_5 rfl (ld_i l4) ?_
    refine t_0 voo_7 rfl (pq_b (by decide)) ?_
    refine tb_ge voo_9 (by decide) ⟨by omega, by omega⟩ ⟨by omega, by omega⟩ (fun c1 => ?_) (fun c1 => absurd c1 (by omega))
    show t_X d 23 41 lv [] g P
    refine t_0 voo_41 rfl (ld_i l3) ?_
    refine t_5 voo_42 rfl rfl ?_
    obtain rfl : k = 8 := by omega
    exact hP g hJ
  | succ r ih =>
    intro k g lv hr hk2 hJ l0 l1 l2 l3 l4
    by_cases hk : k < 8
    · cases qb : bb k with
      | true =>
        refine t_0 voo_5 rfl (ld_i l4) ?_
        refine t_0 voo_7 rfl (pq_b (by decide)) ?_
        refine tb_ge voo_9 (by decide) ⟨by omega, by omega⟩ ⟨by omega, by omega⟩ (fun c1 => absurd c1 (by omega)) (fun c1 => ?_)
        show t_X d 23 12 lv [] g P
        refine t_0 voo_12 rfl (ld_i l3) ?_
        refine t_0 voo_13 rfl (ld_i l2) ?_
        refine t_0 voo_14 rfl (ld_i l4) ?_
        refine t_0 voo_16 rfl rfl ?_
        refine t_0 voo_17 rfl rfl ?_
        refine t_0 voo_18 rfl (pq_hb (e := 1) (by rw [hw k hk, qb]; first | done | rfl)) ?_
        refine tz_eq voo_19 (by decide) ⟨by omega, by omega⟩ (fun c2 => absurd c2 (by omega)) (fun c2 => ?_)
        show t_X d 23 22 lv [oI (oS bb a k)] g P
        refine t_0 voo_22 rfl (ld_a l0) ?_
        refine t_0 voo_23 rfl (ld_a l1) ?_
        refine t_0 voo_24 rfl (ld_i l4) ?_
        refine t_3 voo_26 rfl (ar := ([pvR 164, pvR (4 + 2 * m), oI ((k : Int))], [oI (oS bb a k)])) (pcal_w (as := [oI ((k : Int)), pvR (4 + 2 * m)]) rfl rfl rfl yfeo_164) ⟨by omega, Nat.le_of_ble_eq_true rfl, Nat.le_of_ble_eq_true rfl, rfl⟩ ?_
        refine vog_run hK hm hk (by omega) hJ.1 (sdC_f hJ.2 ((cW_n hK).1 m hm) hs) (((hJ.2.1 164 0 (cW_n hK).2.2.1).2.2).trans r0) (rLc_f hJ.2 (cW_n hK).2.1 hL) (fun g2 J2 => ?_) rfl rfl rfl
        have hJ2 := J_up (Nat.and_self _) hJ J2
        clear hJ
        have hJ := hJ2
        clear hJ2
        rw [show aV o v (qF m ki ma ta wo k) le st co en c 119 99 = a k from by rw [ea]]
        show t_X d 23 29 lv [oI (a k), oI (oS bb a k)] g2 P
        refine t_1 voo_29 rfl (pb_goto (pc := 29) (by decide)) ?_
        show t_X d 23 33 lv [oI (a k), oI (oS bb a k)] g2 P
        refine t_0 voo_33 rfl pq_add ?_
        refine t_2 voo_34 rfl (w := (px_s1 lv 3 (oI ((oS bb a k) + (a k))), [])) rfl ?_
        replace l0 : px_lg (px_s1 lv 3 (oI ((oS bb a k) + (a k)))) 0 = some (pvR 164) := s1_ne (by decide) (fun _ => rfl) l0
        replace l1 : px_lg (px_s1 lv 3 (oI ((oS bb a k) + (a k)))) 1 = some (pvR (4 + 2 * m)) := s1_ne (by decide) (fun _ => rfl) l1
        replace l2 : px_lg (px_s1 lv 3 (oI ((oS bb a k) + (a k)))) 2 = some (oI (W)) := s1_ne (by decide) (fun _ => rfl) l2
        replace l4 : px_lg (px_s1 lv 3 (oI ((oS bb a k) + (a k)))) 4 = some (oI ((k : Int))) := s1_ne (by decide) (fun _ => rfl) l4
        have l3 : px_lg (px_s1 lv 3 (oI ((oS bb a k) + (a k)))) 3 = some (oI ((oS bb a k) + (a k))) := s1_eq
        generalize px_s1 lv 3 (oI ((oS bb a k) + (a k))) = lv3 at l0 l1 l2 l4 l3 ⊢
        show t_X d 23 35 lv3 [] g2 P
        refine t_2 voo_35 rfl (w := (px_s1 lv3 4 (oI ((k : Int) + 1)), [])) (pq_inc l4 (by decide)) ?_
        replace l0 : px_lg (px_s1 lv3 4 (oI ((k : Int) + 1))) 0 = some (pvR 164) := s1_ne (by decide) (fun _ => rfl) l0
        replace l1 : px_lg (px_s1 lv3 4 (oI ((k : Int) + 1))) 1 = some (pvR (4 + 2 * m)) := s1_ne (by decide) (fun _ => rfl) l1
        replace l2 : px_lg (px_s1 lv3 4 (oI ((k : Int) + 1))) 2 = some (oI (W)) := s1_ne (by decide) (fun _ => rfl) l2
        replace l3 : px_lg (px_s1 lv3 4 (oI ((k : Int) + 1))) 3 = some (oI ((oS bb a k) + (a k))) := s1_ne (by decide) (fun _ => rfl) l3
        have l4 : px_lg (px_s1 lv3 4 (oI ((k : Int) + 1))) 4 = some (oI ((k : Int) + 1)) := s1_eq
        generalize px_s1 lv3 4 (oI ((k : Int) + 1)) = lv4 at l0 l1 l2 l3 l4 ⊢
        show t_X d 23 38 lv4 [] g2 P
        refine t_1 voo_38 rfl (pb_goto (pc := 38) (by decide)) ?_
        show t_X d 23 5 lv4 [] g2 P
        exact ih (k + 1) g2 _ (by omega) (by omega) hJ l0 l1 l2 (by rw [oS_y qb]; exact l3) l4
      | false =>
        refine t_0 voo_5 rfl (ld_i l4) ?_
        refine t_0 voo_7 rfl (pq_b (by decide)) ?_
        refine tb_ge voo_9 (by decide) ⟨by omega, by omega⟩ ⟨by omega, by omega⟩ (fun c1 => absurd c1 (by omega)) (fun c1 => ?_)
        show t_X d 23 12 lv [] g P
        refine t_0 voo_12 rfl (ld_i l3) ?_
        refine t_0 voo_13 rfl (ld_i l2) ?_
        refine t_0 voo_14 rfl (ld_i l4) ?_
        refine t_0 voo_16 rfl rfl ?_
        refine t_0 voo_17 rfl rfl ?_
        refine t_0 voo_18 rfl (pq_hb (e := 0) (by rw [hw k hk, qb]; first | done | rfl)) ?_
        refine tz_eq voo_19 (by decide) ⟨by omega, by omega⟩ (fun c2 => ?_) (fun c2 => absurd c2 (by omega))
        show t_X d 23 32 lv [oI (oS bb a k)] g P
        refine t_0 voo_32 rfl rfl ?_
        refine t_0 voo_33 rfl pq_add ?_
        refine t_2 voo_34 rfl (w := (px_s1 lv 3 (oI ((oS bb a k) + 0)), [])) rfl ?_
        replace l0 : px_lg (px_s1 lv 3 (oI ((oS bb a k) + 0))) 0 = some (pvR 164) := s1_ne (by decide) (fun _ => rfl) l0
        replace l1 : px_lg (px_s1 lv 3 (oI ((oS bb a k) + 0))) 1 = some (pvR (4 + 2 * m)) := s1_ne (by decide) (fun _ => rfl) l1
        replace l2 : px_lg (px_s1 lv 3 (oI ((oS bb a k) + 0))) 2 = some (oI (W)) := s1_ne (by decide) (fun _ => rfl) l2
        replace l4 : px_lg (px_s1 lv 3 (oI ((oS bb a k) + 0))) 4 = some (oI ((k : Int))) := s1_ne (by decide) (fun _ => rfl) l4
        have l3 : px_lg (px_s1 lv 3 (oI ((oS bb a k) + 0))) 3 = some (oI ((oS bb a k) + 0)) := s1_eq
        generalize px_s1 lv 3 (oI ((oS bb a k) + 0)) = lv3 at l0 l1 l2 l4 l3 ⊢
        show t_X d 23 35 lv3 [] g P
        refine t_2 voo_35 rfl (w := (px_s1 lv3 4 (oI ((k : Int) + 1)), [])) (pq_inc l4 (by decide)) ?_
        replace l0 : px_lg (px_s1 lv3 4 (oI ((k : Int) + 1))) 0 = some (pvR 164) := s1_ne (by decide) (fun _ => rfl) l0
        replace l1 : px_lg (px_s1 lv3 4 (oI ((k : Int) + 1))) 1 = some (pvR (4 + 2 * m)) := s1_ne (by decide) (fun _ => rfl) l1
        replace l2 : px_lg (px_s1 lv3 4 (oI ((k : Int) + 1))) 2 = some (oI (W)) := s1_ne (by decide) (fun _ => rfl) l2
        replace l3 : px_lg (px_s1 lv3 4 (oI ((k : Int) + 1))) 3 = some (oI ((oS bb a k) + 0)) := s1_ne (by decide) (fun _ => rfl) l3
        have l4 : px_lg (px_s1 lv3 4 (oI ((k : Int) + 1))) 4 = some (oI ((k : Int) + 1)) := s1_eq
        generalize px_s1 lv3 4 (oI ((k : Int) + 1)) = lv4 at l0 l1 l2 l3 l4 ⊢
        show t_X d 23 38 lv4 [] g P
        refine t_1 voo_38 rfl (pb_goto (pc := 38) (by decide)) ?_
        show t_X d 23 5 lv4 [] g P
        exact ih (k + 1) g _ (by omega) (by omega) hJ l0 l1 l2 (by rw [oS_f qb]; rw [show oS bb a k + 0 = oS bb a k by omega] at l3; exact l3) l4
    · skip
      refine t_0 voo_5 rfl (ld_i l4) ?_
      refine t_0 voo_7 rfl (pq_b (by decide)) ?_
      refine tb_ge voo_9 (by decide) ⟨by omega, by omega⟩ ⟨by omega, by omega⟩ (fun c1 => ?_) (fun c1 => absurd c1 (by omega))
      show t_X d 23 41 lv [] g P
      refine t_0 voo_41 rfl (ld_i l3) ?_
      refine t_5 voo_42 rfl rfl ?_
      obtain rfl : k = 8 := by omega
      exact hP g hJ
theorem voo_run {K : Nat} (hK : lK K) {m : Nat} (hm : m < 32) {ki ma ta wo : Int} {k1 c : Int} {o v le st co en : tC} {d : Nat} (hd : 6 ≤ d) {g0 : pH} (hs : sdC g0 m ki ma ta wo) (r0 : g0.2.2.1 164 0 = some K) (hL : rLc g0 K k1 c o v le st co en) {W : Int} {bb : Nat → Bool} (hw : ∀ w : Nat, w < 8 → ((Int32.ofInt W >>> (Int32.ofInt (w : Int) &&& 31)) &&& Int32.ofInt 1) = Int32.ofInt (if bb w then 1 else 0)) {a : Nat → Int} (ea : a = (fun w : Nat => aV o v (qF m ki ma ta wo w) le st co en c 119 99)) {P : Option pv × pH → Prop} (hP : ∀ g1 : pH, J_ (cW K) g0 g1 → P (some (oI (oS bb a 8)), g1)) (hG : g_I eG g0) {lv : List (Nat × pv)} (l0 : px_lg lv 0 = some (pvR 164)) (l1 : px_lg lv 1 = some (pvR (4 + 2 * m))) (l2 : px_lg lv 2 = some (oI W)) : t_X d 23 0 lv [] g0 P := by
  refine t_0 voo_0 rfl rfl ?_
  refine t_2 voo_1 rfl (w := (px_s1 lv 3 (oI 0), [])) rfl ?_
  replace l0 : px_lg (px_s1 lv 3 (oI 0)) 0 = some (pvR 164) := s1_ne (by decide) (fun _ => rfl) l0
  replace l1 : px_lg (px_s1 lv 3 (oI 0)) 1 = some (pvR (4 + 2 * m)) := s1_ne (by decide) (fun _ => rfl) l1
  replace l2 : px_lg (px_s1 lv 3 (oI 0)) 2 = some (oI (W)) := s1_ne (by decide) (fun _ => rfl) l2
  have l3 : px_lg (px_s1 lv 3 (oI 0)) 3 = some (oI 0) := s1_eq
  generalize px_s1 lv 3 (oI 0) = lv1 at l0 l1 l2 l3 ⊢
  show t_X d 23 2 lv1 [] g0 P
  refine t_0 voo_2 rfl rfl ?_
  refine t_2 voo_3 rfl (w := (px_s1 lv1 4 (oI 0), [])) rfl ?_
  replace l0 : px_lg (px_s1 lv1 4 (oI 0)) 0 = some (pvR 164) := s1_ne (by decide) (fun _ => rfl) l0
  replace l1 : px_lg (px_s1 lv1 4 (oI 0)) 1 = some (pvR (4 + 2 * m)) := s1_ne (by decide) (fun _ => rfl) l1
  replace l2 : px_lg (px_s1 lv1 4 (oI 0)) 2 = some (oI (W)) := s1_ne (by decide) (fun _ => rfl) l2
  replace l3 : px_lg (px_s1 lv1 4 (oI 0)) 3 = some (oI 0) := s1_ne (by decide) (fun _ => rfl) l3
  have l4 : px_lg (px_s1 lv1 4 (oI 0)) 4 = some (oI 0) := s1_eq
  generalize px_s1 lv1 4 (oI 0) = lv2 at l0 l1 l2 l3 l4 ⊢
  show t_X d 23 5 lv2 [] g0 P
  exact voo_loop hK hm hd hs r0 hL hw ea hP 8 0 g0 _ (by omega) (by omega) (J_rf hG) l0 l1 l2 l3 l4
theorem vaa_loop {m : Nat} (hm : m < 32) {w : Nat} (hw : w < 8) {d : Nat} (hd : 1 ≤ d) {g : pH} (hG : g_I eG g) {pic : tC} (hp : ∀ j : Nat, j < 25 → pic j = fA g 210 (25 * m + j)) (hpb : ∀ j, -2147483648 ≤ pic j ∧ pic j ≤ 2147483647) {P : Option pv × pH → Prop} (h1 : alN pic w = true → P (some (oI 1), g)) (h0 : alN pic w = false → P (some (oI 0), g)) : ∀ (r k : Nat) (lv : List (Nat × pv)), 25 - k ≤ r → k ≤ 25 → (∀ j, j < k → okA pic w j = true) → px_lg lv 0 = some (pvR 196) → px_lg lv 1 = some (oI (m : Int)) → px_lg lv 2 = some (oI (w : Int)) → px_lg lv 3 = some (oI 0) → px_lg lv 4 = some (oI (k : Int)) → t_X d 167 3 lv [] g P := by
  intro r
  induction r with
  | zero =>
    intro k lv hr hk2 hK l0 l1 l2 l3 l4
    refine t_0 vaa_3 rfl (ld_i l4) ?_
    refine t_0 vaa_5 rfl (pq_b (by decide)) ?_
    refine tb_ge vaa_7 (by decide) ⟨by omega, by omega⟩ ⟨by omega, by omega⟩ (fun c1 => ?_) (fun c1 => absurd c1 (by omega))
    show t_X d 167 49 lv [] g P
    refine t_0 vaa_49 rfl rfl ?_
    refine t_5 vaa_50 rfl rfl ?_
    exact h1 (alN_1 (fun j hj => hK j (by omega)))
  | succ r ih =>
    intro k lv hr hk2 hK l0 l1 l2 l3 l4
    have qb := qdI_b (w := w) (x := (k : Int) % 5) (y := (k : Int) / 5)
    have pb8 := hpb (qdI w ((k : Int) % 5) ((k : Int) / 5)).toNat
    have pb9 := hpb k
    by_cases hk : k < 25
    · have qb := qb ⟨by omega, by omega⟩ ⟨by omega, by omega⟩
      refine t_0 vaa_3 rfl (ld_i l4) ?_
      refine t_0 vaa_5 rfl (pq_b (by decide)) ?_
      refine tb_ge vaa_7 (by decide) ⟨by omega, by omega⟩ ⟨by omega, by omega⟩ (fun c1 => absurd c1 (by omega)) (fun c1 => ?_)
      show t_X d 167 10 lv [] g P
      refine t_0 vaa_10 rfl (ld_a l0) ?_
      refine t_0 vaa_11 rfl (ld_i l1) ?_
      refine t_0 vaa_12 rfl (ld_i l2) ?_
      refine t_0 vaa_13 rfl (ld_i l4) ?_
      refine t_0 vaa_15 rfl rfl ?_
      refine t_0 vaa_16 rfl (pq_rem ⟨by omega, by omega⟩ ⟨by omega, by omega⟩) ?_
      refine t_0 vaa_17 rfl (ld_i l4) ?_
      refine t_0 vaa_19 rfl rfl ?_
      refine t_0 vaa_20 rfl (pq_div ⟨by omega, by omega⟩ ⟨by omega, by omega⟩) ?_
      refine t_3 vaa_21 rfl (ar := ([pvR 196, oI ((m : Int)), oI ((w : Int)), oI ((k : Int) % 5), oI ((k : Int) / 5)], [])) (pcal_w (as := [oI ((k : Int) / 5), oI ((k : Int) % 5), oI ((w : Int)), oI ((m : Int))]) rfl rfl rfl yfeo_196) ⟨by omega, Nat.le_of_ble_eq_true rfl, Nat.le_of_ble_eq_true rfl, rfl⟩ ?_
      refine vsq_run (w := w) hm hw hG ⟨by omega, by omega⟩ ⟨by omega, by omega⟩ ?_ rfl rfl rfl rfl rfl
      rw [show fA g 210 (25 * (m : Int) + qdI w ((k : Int) % 5) ((k : Int) / 5)).toNat = pic (qdI w ((k : Int) % 5) ((k : Int) / 5)).toNat from by rw [hp _ (by omega)]; congr 1; omega]
      show t_X d 167 24 lv [oI (pic (qdI w ((k : Int) % 5) ((k : Int) / 5)).toNat)] g P
      refine t_0 vaa_24 rfl (ld_a l0) ?_
      refine t_0 vaa_25 rfl (ld_i l1) ?_
      refine t_0 vaa_26 rfl (ld_i l3) ?_
      refine t_0 vaa_27 rfl (ld_i l4) ?_
      refine t_0 vaa_29 rfl rfl ?_
      refine t_0 vaa_30 rfl (pq_rem ⟨by omega, by omega⟩ ⟨by omega, by omega⟩) ?_
      refine t_0 vaa_31 rfl (ld_i l4) ?_
      refine t_0 vaa_33 rfl rfl ?_
      refine t_0 vaa_34 rfl (pq_div ⟨by omega, by omega⟩ ⟨by omega, by omega⟩) ?_
      refine t_3 vaa_35 rfl (ar := ([pvR 196, oI ((m : Int)), oI 0, oI ((k : Int) % 5), oI ((k : Int) / 5)], [oI (pic (qdI w ((k : Int) % 5) ((k : Int) / 5)).toNat)])) (pcal_w (as := [oI ((k : Int) / 5), oI ((k : Int) % 5), oI 0, oI ((m : Int))]) rfl rfl rfl yfeo_196) ⟨by omega, Nat.le_of_ble_eq_true rfl, Nat.le_of_ble_eq_true rfl, rfl⟩ ?_
      refine vsq_run (w := 0) hm (by decide) hG ⟨by omega, by omega⟩ ⟨by omega, by omega⟩ ?_ rfl rfl rfl rfl rfl
      rw [show fA g 210 (25 * (m : Int) + qdI 0 ((k : Int) % 5) ((k : Int) / 5)).toNat = pic k from by rw [hp _ hk]; congr 1; show (25 * (m : Int) + (5 * ((k : Int) / 5) + (k : Int) % 5)).toNat = _; omega]
      show t_X d 167 38 lv [oI (pic k), oI (pic (qdI w ((k : Int) % 5) ((k : Int) / 5)).toNat)] g P
      refine tb_eq vaa_38 (by decide) ⟨by omega, by omega⟩ ⟨by omega, by omega⟩ (fun c2 => ?_) (fun c2 => ?_)
      · show t_X d 167 43 lv [] g P
        refine t_2 vaa_43 rfl (w := (px_s1 lv 4 (oI ((k : Int) + 1)), [])) (pq_inc l4 (by decide)) ?_
        replace l0 : px_lg (px_s1 lv 4 (oI ((k : Int) + 1))) 0 = some (pvR 196) := s1_ne (by decide) (fun _ => rfl) l0
        replace l1 : px_lg (px_s1 lv 4 (oI ((k : Int) + 1))) 1 = some (oI ((m : Int))) := s1_ne (by decide) (fun _ => rfl) l1
        replace l2 : px_lg (px_s1 lv 4 (oI ((k : Int) + 1))) 2 = some (oI ((w : Int))) := s1_ne (by decide) (fun _ => rfl) l2
        replace l3 : px_lg (px_s1 lv 4 (oI ((k : Int) + 1))) 3 = some (oI 0) := s1_ne (by decide) (fun _ => rfl) l3
        have l4 : px_lg (px_s1 lv 4 (oI ((k : Int) + 1))) 4 = some (oI ((k : Int) + 1)) := s1_eq
        generalize px_s1 lv 4 (oI ((k : Int) + 1)) = lv3 at l0 l1 l2 l3 l4 ⊢
        show t_X d 167 46 lv3 [] g P
        refine t_1 vaa_46 rfl (pb_goto (pc := 46) (by decide)) ?_
        show t_X d 167 3 lv3 [] g P
        exact ih (k + 1) _ (by omega) (by omega) (fun j hj => by rcases Nat.lt_or_ge j k with z | z; exact hK j z; rw [show j = k by omega]; exact decide_eq_true (by omega)) l0 l1 l2 l3 l4
      · show t_X d 167 41 lv [] g P
        refine t_0 vaa_41 rfl rfl ?_
        refine t_5 vaa_42 rfl rfl ?_
        exact h0 (alN_0 hk (decide_eq_false (by omega)))
    · skip
      refine t_0 vaa_3 rfl (ld_i l4) ?_
      refine t_0 vaa_5 rfl (pq_b (by decide)) ?_
      refine tb_ge vaa_7 (by decide) ⟨by omega, by omega⟩ ⟨by omega, by omega⟩ (fun c1 => ?_) (fun c1 => absurd c1 (by omega))
      show t_X d 167 49 lv [] g P
      refine t_0 vaa_49 rfl rfl ?_
      refine t_5 vaa_50 rfl rfl ?_
      exact h1 (alN_1 (fun j hj => hK j (by omega)))
theorem vaa_run {m : Nat} (hm : m < 32) {w : Nat} (hw : w < 8) {d : Nat} (hd : 1 ≤ d) {g : pH} (hG : g_I eG g) {pic : tC} (hp : ∀ j : Nat, j < 25 → pic j = fA g 210 (25 * m + j)) (hpb : ∀ j, -2147483648 ≤ pic j ∧ pic j ≤ 2147483647) {P : Option pv × pH → Prop} (h1 : alN pic w = true → P (some (oI 1), g)) (h0 : alN pic w = false → P (some (oI 0), g)) {lv : List (Nat × pv)} (l0 : px_lg lv 0 = some (pvR 196)) (l1 : px_lg lv 1 = some (oI (m : Int))) (l2 : px_lg lv 2 = some (oI (w : Int))) (l3 : px_lg lv 3 = some (oI 0)) : t_X d 167 0 lv [] g P := by
  refine t_0 vaa_0 rfl rfl ?_
  refine t_2 vaa_1 rfl (w := (px_s1 lv 4 (oI 0), [])) rfl ?_
  replace l0 : px_lg (px_s1 lv 4 (oI 0)) 0 = some (pvR 196) := s1_ne (by decide) (fun _ => rfl) l0
  replace l1 : px_lg (px_s1 lv 4 (oI 0)) 1 = some (oI ((m : Int))) := s1_ne (by decide) (fun _ => rfl) l1
  replace l2 : px_lg (px_s1 lv 4 (oI 0)) 2 = some (oI ((w : Int))) := s1_ne (by decide) (fun _ => rfl) l2
  replace l3 : px_lg (px_s1 lv 4 (oI 0)) 3 = some (oI 0) := s1_ne (by decide) (fun _ => rfl) l3
  have l4 : px_lg (px_s1 lv 4 (oI 0)) 4 = some (oI 0) := s1_eq
  generalize px_s1 lv 4 (oI 0) = lv1 at l0 l1 l2 l3 l4 ⊢
  show t_X d 167 3 lv1 [] g P
  exact vaa_loop hm hw hd hG hp hpb h1 h0 25 0 _ (by omega) (by omega) (fun j hj => absurd hj (Nat.not_lt_zero j)) l0 l1 l2 l3 l4
