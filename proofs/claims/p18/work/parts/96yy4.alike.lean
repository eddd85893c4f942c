/-! the ways alike 0: the class tells them (printed by wip/e2/x18.py) -/
theorem uty_48 : xe_look (xc 78) 48 = some (.iconst 0, 1, 0, 0, 0) := by decide +kernel
theorem uty_49 : xe_look (xc 78) 49 = some (.istore 5, 2, 0, 0, 0) := by decide +kernel
theorem uty_51 : xe_look (xc 78) 51 = some (.iload 5, 2, 0, 0, 0) := by decide +kernel
theorem uty_53 : xe_look (xc 78) 53 = some (.bipush 8, 2, 0, 0, 0) := by decide +kernel
theorem uty_55 : xe_look (xc 78) 55 = some (.if_icmp .ge 35, 3, 0, 0, 0) := by decide +kernel
theorem uty_58 : xe_look (xc 78) 58 = some (.aload_n 0, 1, 0, 0, 0) := by decide +kernel
theorem uty_59 : xe_look (xc 78) 59 = some (.dup, 1, 0, 0, 0) := by decide +kernel
theorem uty_60 : xe_look (xc 78) 60 = some (.getfield 47, 3, 7, 8, 918) := by decide +kernel
theorem uty_63 : xe_look (xc 78) 63 = some (.aload_n 0, 1, 0, 0, 0) := by decide +kernel
theorem uty_64 : xe_look (xc 78) 64 = some (.iload 5, 2, 0, 0, 0) := by decide +kernel
theorem uty_66 : xe_look (xc 78) 66 = some (.invokevirtual 50, 3, 0, 76, 923) := by decide +kernel
theorem uty_69 : xe_look (xc 78) 69 = some (.ifCond .eq 10, 3, 0, 0, 0) := by decide +kernel
theorem uty_72 : xe_look (xc 78) 72 = some (.iconst 1, 1, 0, 0, 0) := by decide +kernel
theorem uty_73 : xe_look (xc 78) 73 = some (.iload 5, 2, 0, 0, 0) := by decide +kernel
theorem uty_75 : xe_look (xc 78) 75 = some (.ishl, 1, 0, 0, 0) := by decide +kernel
theorem uty_76 : xe_look (xc 78) 76 = some (.goto 4, 3, 0, 0, 0) := by decide +kernel
theorem uty_79 : xe_look (xc 78) 79 = some (.iconst 0, 1, 0, 0, 0) := by decide +kernel
theorem uty_80 : xe_look (xc 78) 80 = some (.ior, 1, 0, 0, 0) := by decide +kernel
theorem uty_81 : xe_look (xc 78) 81 = some (.putfield 47, 3, 7, 8, 918) := by decide +kernel
theorem uty_84 : xe_look (xc 78) 84 = some (.iinc 5 1, 3, 0, 0, 0) := by decide +kernel
theorem uty_87 : xe_look (xc 78) 87 = some (.goto (-36), 3, 0, 0, 0) := by decide +kernel
theorem uty_90 : xe_look (xc 78) 90 = some (.return_, 1, 0, 0, 0) := by decide +kernel
theorem vlr_0 : xe_look (xc 76) 0 = some (.iconst 0, 1, 0, 0, 0) := by decide +kernel
theorem vlr_1 : xe_look (xc 76) 1 = some (.istore_n 2, 1, 0, 0, 0) := by decide +kernel
theorem vlr_2 : xe_look (xc 76) 2 = some (.iload_n 2, 1, 0, 0, 0) := by decide +kernel
theorem vlr_3 : xe_look (xc 76) 3 = some (.bipush 25, 2, 0, 0, 0) := by decide +kernel
theorem vlr_5 : xe_look (xc 76) 5 = some (.if_icmp .ge 31, 3, 0, 0, 0) := by decide +kernel
theorem vlr_8 : xe_look (xc 76) 8 = some (.aload_n 0, 1, 0, 0, 0) := by decide +kernel
theorem vlr_9 : xe_look (xc 76) 9 = some (.iload_n 1, 1, 0, 0, 0) := by decide +kernel
theorem vlr_10 : xe_look (xc 76) 10 = some (.iload_n 2, 1, 0, 0, 0) := by decide +kernel
theorem vlr_11 : xe_look (xc 76) 11 = some (.iconst 5, 1, 0, 0, 0) := by decide +kernel
theorem vlr_12 : xe_look (xc 76) 12 = some (.irem, 1, 0, 0, 0) := by decide +kernel
theorem vlr_13 : xe_look (xc 76) 13 = some (.iload_n 2, 1, 0, 0, 0) := by decide +kernel
theorem vlr_14 : xe_look (xc 76) 14 = some (.iconst 5, 1, 0, 0, 0) := by decide +kernel
theorem vlr_15 : xe_look (xc 76) 15 = some (.idiv, 1, 0, 0, 0) := by decide +kernel
theorem vlr_16 : xe_look (xc 76) 16 = some (.invokevirtual 54, 3, 0, 77, 922) := by decide +kernel
theorem vlr_19 : xe_look (xc 76) 19 = some (.aload_n 0, 1, 0, 0, 0) := by decide +kernel
theorem vlr_20 : xe_look (xc 76) 20 = some (.getfield 15, 3, 7, 1, 910) := by decide +kernel
theorem vlr_23 : xe_look (xc 76) 23 = some (.iload_n 2, 1, 0, 0, 0) := by decide +kernel
theorem vlr_24 : xe_look (xc 76) 24 = some (.iaload, 1, 0, 0, 0) := by decide +kernel
theorem vlr_25 : xe_look (xc 76) 25 = some (.if_icmp .eq 5, 3, 0, 0, 0) := by decide +kernel
theorem vlr_28 : xe_look (xc 76) 28 = some (.iconst 0, 1, 0, 0, 0) := by decide +kernel
theorem vlr_29 : xe_look (xc 76) 29 = some (.ireturn, 1, 0, 0, 0) := by decide +kernel
theorem vlr_30 : xe_look (xc 76) 30 = some (.iinc 2 1, 3, 0, 0, 0) := by decide +kernel
theorem vlr_33 : xe_look (xc 76) 33 = some (.goto (-31), 3, 0, 0, 0) := by decide +kernel
theorem vlr_36 : xe_look (xc 76) 36 = some (.iconst 1, 1, 0, 0, 0) := by decide +kernel
theorem vlr_37 : xe_look (xc 76) 37 = some (.ireturn, 1, 0, 0, 0) := by decide +kernel
def okA (pic : tC) (w k : Nat) : Bool := decide (pic (qdI w ((k : Int) % 5) ((k : Int) / 5)).toNat = pic k)
/-- the picture is seen alike by a way -/
def alN (pic : tC) (w : Nat) : Bool := (List.range 25).all (fun k => okA pic w k)
theorem alN_1 {pic : tC} {w : Nat} (h : ∀ k, k < 25 → okA pic w k = true) : alN pic w = true := List.all_eq_true.mpr (fun k hk => h k (List.mem_range.mp hk))
theorem alN_0 {pic : tC} {w k : Nat} (hk : k < 25) (h : okA pic w k = false) : alN pic w = false := by
  cases e : alN pic w with
  | false => rfl
  | true =>
    have := List.all_eq_true.mp e k (List.mem_range.mpr hk)
    rw [h] at this
    cases this
def alB (pic : tC) : Nat → Int
  | 0 => 0
  | k + 1 => alB pic k + (if alN pic k then ((2 ^ k : Nat) : Int) else 0)
theorem alB_y {pic : tC} {k : Nat} (h : alN pic k = true) : alB pic (k + 1) = alB pic k + ((2 ^ k : Nat) : Int) := by
  show _ + _ = _
  rw [if_pos h]
theorem alB_f {pic : tC} {k : Nat} (h : alN pic k = false) : alB pic (k + 1) = alB pic k := by
  show _ + _ = _
  rw [if_neg (by rw [h]; exact Bool.false_ne_true)]
  omega
theorem alB_b {pic : tC} : ∀ k : Nat, 0 ≤ alB pic k ∧ alB pic k < ((2 ^ k : Nat) : Int) := by
  intro k
  induction k with
  | zero => exact ⟨by show (0 : Int) ≤ 0; omega, by show (0 : Int) < 1; omega⟩
  | succ k ih =>
    have e : ((2 ^ (k + 1) : Nat) : Int) = ((2 ^ k : Nat) : Int) + ((2 ^ k : Nat) : Int) := by rw [Nat.pow_succ]; omega
    unfold alB
    split
    · omega
    · omega
theorem or9 : ∀ k : Nat, k < 8 → ∀ b : Nat, b < 2 ^ k → (Int32.ofInt (b : Int) ||| (Int32.ofInt 1 <<< (Int32.ofInt (k : Int) &&& 31))) = Int32.ofInt ((b : Int) + ((2 ^ k : Nat) : Int)) := by decide +kernel
section OR
variable {d x y : Nat} {lv : List (Nat × pv)} {h : pH} {r : List pv}
theorem pq_or9 {k : Nat} {b : Int} (hk : k < 8) (hb : 0 ≤ b ∧ b < ((2 ^ k : Nat) : Int)) : px_push eL d none .ior x y lv (.inl (Int32.ofInt 1 <<< (Int32.ofInt (k : Int) &&& 31)) :: oI b :: r) h = some (oI (b + ((2 ^ k : Nat) : Int)) :: r) := by
  have := or9 k hk b.toNat (by omega)
  rw [Int.toNat_of_nonneg hb.1] at this
  show some ((.inl (Int32.ofInt b ||| (Int32.ofInt 1 <<< (Int32.ofInt (k : Int) &&& 31))) : pv) :: r) = _
  rw [this]
theorem pq_or0 {b : Int} : px_push eL d none .ior x y lv (oI 0 :: oI b :: r) h = some (oI b :: r) := by
  show some ((.inl (Int32.ofInt b ||| Int32.ofInt 0) : pv) :: r) = _
  rw [show Int32.ofInt 0 = 0 from rfl, Int32.or_zero]
end OR
theorem p2_8 {k : Nat} (hk : k < 8) : ((2 ^ k : Nat) : Int) ≤ 128 := by
  rcases (show k = 0 ∨ k = 1 ∨ k = 2 ∨ k = 3 ∨ k = 4 ∨ k = 5 ∨ k = 6 ∨ k = 7 by omega) with rfl | rfl | rfl | rfl | rfl | rfl | rfl | rfl <;> decide
def tW8 (m : Nat) : Nat := 2 ^ (cn (4 + 2 * m) + 8)
abbrev t8E (m : Nat) (g0 g : pH) (v : Int) : Prop := sE [(4 + 2 * m, 8)] [] (tW8 m) g0 g [v] []
theorem t8_f (K : Nat) : sEf [(K, 8)] K 8 0 = true := by
  unfold sEf
  rw [List.all_eq_true]
  intro j hj
  have hj : j < 1 := List.mem_range.mp hj
  rw [show j = 0 by omega]
  rfl
theorem t8_w : ∀ m, m < 32 → (tW8 m).testBit (cn (4 + 2 * m) + 8) = true ∧ (tW8 m).testBit (cn (5 + 2 * m)) = false := by decide +kernel
theorem vlr_loop {m : Nat} (hm : m < 32) {w : Nat} (hw : w < 8) {d : Nat} (hd : 2 ≤ d) {g : pH} (hG : g_I eG g) {pic : tC} (hp : fA g (5 + 2 * m) = pic) {P : Option pv × pH → Prop} (h1 : alN pic w = true → P (some (oI 1), g)) (h0 : alN pic w = false → P (some (oI 0), g)) : ∀ (r k : Nat) (lv : List (Nat × pv)), 25 - k ≤ r → k ≤ 25 → (∀ j, j < k → okA pic w j = true) → px_lg lv 0 = some (pvR (4 + 2 * m)) → px_lg lv 1 = some (oI (w : Int)) → px_lg lv 2 = some (oI (k : Int)) → t_X d 76 2 lv [] g P := by
  have pb : ∀ j, -2147483648 ≤ pic j ∧ pic j ≤ 2147483647 := fun j => by rw [← hp]; exact i32_b _
  intro r
  induction r with
  | zero =>
    intro k lv hr hk2 hK l0 l1 l2
    refine t_0 vlr_2 rfl (ld_i l2) ?_
    refine t_0 vlr_3 rfl (pq_b (by decide)) ?_
    refine tb_ge vlr_5 (by decide) ⟨by omega, by omega⟩ ⟨by omega, by omega⟩ (fun c1 => ?_) (fun c1 => absurd c1 (by omega))
    show t_X d 76 36 lv [] g P
    refine t_0 vlr_36 rfl rfl ?_
    refine t_5 vlr_37 rfl rfl ?_
    exact h1 (alN_1 (fun j hj => hK j (by omega)))
  | succ r ih =>
    intro k lv hr hk2 hK l0 l1 l2
    have pb8 := pb (qdI w ((k : Int) % 5) ((k : Int) / 5)).toNat
    have pb9 := pb k
    by_cases hk : k < 25
    · skip
      refine t_0 vlr_2 rfl (ld_i l2) ?_
      refine t_0 vlr_3 rfl (pq_b (by decide)) ?_
      refine tb_ge vlr_5 (by decide) ⟨by omega, by omega⟩ ⟨by omega, by omega⟩ (fun c1 => absurd c1 (by omega)) (fun c1 => ?_)
      show t_X d 76 8 lv [] g P
      refine t_0 vlr_8 rfl (ld_a l0) ?_
      refine t_0 vlr_9 rfl (ld_i l1) ?_
      refine t_0 vlr_10 rfl (ld_i l2) ?_
      refine t_0 vlr_11 rfl rfl ?_
      refine t_0 vlr_12 rfl (pq_rem ⟨by omega, by omega⟩ ⟨by omega, by omega⟩) ?_
      refine t_0 vlr_13 rfl (ld_i l2) ?_
      refine t_0 vlr_14 rfl rfl ?_
      refine t_0 vlr_15 rfl (pq_div ⟨by omega, by omega⟩ ⟨by omega, by omega⟩) ?_
      refine t_3 vlr_16 rfl (ar := ([pvR (4 + 2 * m), oI ((w : Int)), oI ((k : Int) % 5), oI ((k : Int) / 5)], [])) (pcal_w (as := [oI ((k : Int) / 5), oI ((k : Int) % 5), oI ((w : Int))]) rfl rfl rfl (el_s4 hm)) ⟨by omega, Nat.le_of_ble_eq_true rfl, Nat.le_of_ble_eq_true rfl, rfl⟩ ?_
      refine vsy_run hm hw hG hp ⟨by omega, by omega⟩ ⟨by omega, by omega⟩ (by omega) (fun cc8 => ?_) (fun cc8 => absurd ⟨⟨by omega, by omega⟩, by omega, by omega⟩ cc8) rfl rfl rfl rfl
      show t_X d 76 19 lv [oI (pic (qdI w ((k : Int) % 5) ((k : Int) / 5)).toNat)] g P
      refine t_0 vlr_19 rfl (ld_a l0) ?_
      refine t_0 vlr_20 rfl (tl_r1 hm hG) ?_
      show t_X d 76 23 lv [pvR (5 + 2 * m), oI (pic (qdI w ((k : Int) % 5) ((k : Int) / 5)).toNat)] g P
      refine t_0 vlr_23 rfl (ld_i l2) ?_
      refine t_0 vlr_24 rfl (pq_iv (tl_a m hm).1 rfl ⟨by omega, by omega⟩ hp) ?_
      show t_X d 76 25 lv [oI (pic k), oI (pic (qdI w ((k : Int) % 5) ((k : Int) / 5)).toNat)] g P
      refine tb_eq vlr_25 (by decide) ⟨by omega, by omega⟩ ⟨by omega, by omega⟩ (fun c2 => ?_) (fun c2 => ?_)
      · show t_X d 76 30 lv [] g P
        refine t_2 vlr_30 rfl (w := (px_s1 lv 2 (oI ((k : Int) + 1)), [])) (pq_inc l2 (by decide)) ?_
        replace l0 : px_lg (px_s1 lv 2 (oI ((k : Int) + 1))) 0 = some (pvR (4 + 2 * m)) := s1_ne (by decide) (fun _ => rfl) l0
        replace l1 : px_lg (px_s1 lv 2 (oI ((k : Int) + 1))) 1 = some (oI ((w : Int))) := s1_ne (by decide) (fun _ => rfl) l1
        have l2 : px_lg (px_s1 lv 2 (oI ((k : Int) + 1))) 2 = some (oI ((k : Int) + 1)) := s1_eq
        generalize px_s1 lv 2 (oI ((k : Int) + 1)) = lv3 at l0 l1 l2 ⊢
        show t_X d 76 33 lv3 [] g P
        refine t_1 vlr_33 rfl (pb_goto (pc := 33) (by decide)) ?_
        show t_X d 76 2 lv3 [] g P
        exact ih (k + 1) _ (by omega) (by omega) (fun j hj => by rcases Nat.lt_or_ge j k with z | z; exact hK j z; rw [show j = k by omega]; exact decide_eq_true (by omega)) l0 l1 l2
      · show t_X d 76 28 lv [] g P
        refine t_0 vlr_28 rfl rfl ?_
        refine t_5 vlr_29 rfl rfl ?_
        exact h0 (alN_0 hk (decide_eq_false (by omega)))
    · skip
      refine t_0 vlr_2 rfl (ld_i l2) ?_
      refine t_0 vlr_3 rfl (pq_b (by decide)) ?_
      refine tb_ge vlr_5 (by decide) ⟨by omega, by omega⟩ ⟨by omega, by omega⟩ (fun c1 => ?_) (fun c1 => absurd c1 (by omega))
      show t_X d 76 36 lv [] g P
      refine t_0 vlr_36 rfl rfl ?_
      refine t_5 vlr_37 rfl rfl ?_
      exact h1 (alN_1 (fun j hj => hK j (by omega)))
theorem vlr_run {m : Nat} (hm : m < 32) {w : Nat} (hw : w < 8) {d : Nat} (hd : 2 ≤ d) {g : pH} (hG : g_I eG g) {pic : tC} (hp : fA g (5 + 2 * m) = pic) {P : Option pv × pH → Prop} (h1 : alN pic w = true → P (some (oI 1), g)) (h0 : alN pic w = false → P (some (oI 0), g)) {lv : List (Nat × pv)} (l0 : px_lg lv 0 = some (pvR (4 + 2 * m))) (l1 : px_lg lv 1 = some (oI (w : Int))) : t_X d 76 0 lv [] g P := by
  refine t_0 vlr_0 rfl rfl ?_
  refine t_2 vlr_1 rfl (w := (px_s1 lv 2 (oI 0), [])) rfl ?_
  replace l0 : px_lg (px_s1 lv 2 (oI 0)) 0 = some (pvR (4 + 2 * m)) := s1_ne (by decide) (fun _ => rfl) l0
  replace l1 : px_lg (px_s1 lv 2 (oI 0)) 1 = some (oI ((w : Int))) := s1_ne (by decide) (fun _ => rfl) l1
  have l2 : px_lg (px_s1 lv 2 (oI 0)) 2 = some (oI 0) := s1_eq
  generalize px_s1 lv 2 (oI 0) = lv1 at l0 l1 l2 ⊢
  show t_X d 76 2 lv1 [] g P
  exact vlr_loop hm hw hd hG hp h1 h0 25 0 _ (by omega) (by omega) (fun j hj => absurd hj (Nat.not_lt_zero j)) l0 l1 l2
theorem uty_loop {m : Nat} (hm : m < 32) {d : Nat} (hd : 3 ≤ d) {g0 : pH} {pic : tC} (hp : fA g0 (5 + 2 * m) = pic) {P : Option pv × pH → Prop} (hP : ∀ g1 : pH, J_ (tW8 m) g0 g1 → cF g1 (4 + 2 * m) 8 = alB pic 8 → P (none, g1)) : ∀ (r k : Nat) (g : pH) (lv : List (Nat × pv)), 8 - k ≤ r → k ≤ 8 → t8E m g0 g (alB pic k) → px_lg lv 0 = some (pvR (4 + 2 * m)) → px_lg lv 5 = some (oI (k : Int)) → t_X d 78 51 lv [] g P := by
  intro r
  induction r with
  | zero =>
    intro k g lv hr hk2 hS l0 l5
    refine t_0 uty_51 rfl (ld_i l5) ?_
    refine t_0 uty_53 rfl (pq_b (by decide)) ?_
    refine tb_ge uty_55 (by decide) ⟨by omega, by omega⟩ ⟨by omega, by omega⟩ (fun c1 => ?_) (fun c1 => absurd c1 (by omega))
    show t_X d 78 90 lv [] g P
    refine t_5 uty_90 rfl rfl ?_
    obtain rfl : k = 8 := by omega
    exact hP _ (S_J hS) (S_f hS 0 (Nat.le_of_ble_eq_true rfl))
  | succ r ih =>
    intro k g lv hr hk2 hS l0 l5
    by_cases hk : k < 8
    · have ab := alB_b (pic := pic) k
      have p8 := p2_8 hk
      refine t_0 uty_51 rfl (ld_i l5) ?_
      refine t_0 uty_53 rfl (pq_b (by decide)) ?_
      refine tb_ge uty_55 (by decide) ⟨by omega, by omega⟩ ⟨by omega, by omega⟩ (fun c1 => absurd c1 (by omega)) (fun c1 => ?_)
      show t_X d 78 58 lv [] g P
      refine t_0 uty_58 rfl (ld_a l0) ?_
      refine t_0 uty_59 rfl rfl ?_
      refine t_0 uty_60 rfl (pq_cv (el_s4 hm) rfl (show cF g (4 + 2 * m) 8 = alB pic k from S_f hS 0 (Nat.le_of_ble_eq_true rfl))) ?_
      show t_X d 78 63 lv [oI (alB pic k), pvR (4 + 2 * m)] g P
      refine t_0 uty_63 rfl (ld_a l0) ?_
      refine t_0 uty_64 rfl (ld_i l5) ?_
      refine t_3 uty_66 rfl (ar := ([pvR (4 + 2 * m), oI ((k : Int))], [oI (alB pic k), pvR (4 + 2 * m)])) (pcal_w (as := [oI ((k : Int))]) rfl rfl rfl (el_s4 hm)) ⟨by omega, Nat.le_of_ble_eq_true rfl, Nat.le_of_ble_eq_true rfl, rfl⟩ ?_
      refine vlr_run hm hk (by omega) (S_J hS).1 ((fA_M (S_J hS).2 (t8_w m hm).2).trans hp) (fun q0 => ?_) (fun q0 => ?_) rfl rfl
      · show t_X d 78 69 lv [oI 1, oI (alB pic k), pvR (4 + 2 * m)] g P
        refine tz_eq uty_69 (by decide) ⟨by omega, by omega⟩ (fun c2 => absurd c2 (by omega)) (fun c2 => ?_)
        show t_X d 78 72 lv [oI (alB pic k), pvR (4 + 2 * m)] g P
        refine t_0 uty_72 rfl rfl ?_
        refine t_0 uty_73 rfl (ld_i l5) ?_
        refine t_0 uty_75 rfl rfl ?_
        refine t_1 uty_76 rfl (pb_goto (pc := 76) (by decide)) ?_
        show t_X d 78 80 lv [.inl ((Int32.ofInt (1)) <<< ((Int32.ofInt ((k : Int))) &&& 31)), oI (alB pic k), pvR (4 + 2 * m)] g P
        refine t_0 uty_80 rfl (pq_or9 hk ⟨by omega, by omega⟩) ?_
        refine ts_f (n := 0) rfl rfl (t8_f _) uty_81 rfl (el_s4 hm) hS (t8_w m hm).1 (tl_g8 m hm) (by decide) ⟨by omega, by omega⟩ (fun g3 hS3 => ?_)
        replace hS3 : t8E m g0 g3 (alB pic k + ((2 ^ k : Nat) : Int)) := hS3
        show t_X d 78 84 lv [] g3 P
        refine t_2 uty_84 rfl (w := (px_s1 lv 5 (oI ((k : Int) + 1)), [])) (pq_inc l5 (by decide)) ?_
        replace l0 : px_lg (px_s1 lv 5 (oI ((k : Int) + 1))) 0 = some (pvR (4 + 2 * m)) := s1_ne (by decide) (fun _ => rfl) l0
        have l5 : px_lg (px_s1 lv 5 (oI ((k : Int) + 1))) 5 = some (oI ((k : Int) + 1)) := s1_eq
        generalize px_s1 lv 5 (oI ((k : Int) + 1)) = lv4 at l0 l5 ⊢
        show t_X d 78 87 lv4 [] g3 P
        refine t_1 uty_87 rfl (pb_goto (pc := 87) (by decide)) ?_
        show t_X d 78 51 lv4 [] g3 P
        refine ih (k + 1) _ _ (by omega) (by omega) (by rw [alB_y q0]; exact hS3) l0 l5
      · show t_X d 78 69 lv [oI 0, oI (alB pic k), pvR (4 + 2 * m)] g P
        refine tz_eq uty_69 (by decide) ⟨by omega, by omega⟩ (fun c5 => ?_) (fun c5 => absurd c5 (by omega))
        show t_X d 78 79 lv [oI (alB pic k), pvR (4 + 2 * m)] g P
        refine t_0 uty_79 rfl rfl ?_
        refine t_0 uty_80 rfl pq_or0 ?_
        refine ts_f (n := 0) rfl rfl (t8_f _) uty_81 rfl (el_s4 hm) hS (t8_w m hm).1 (tl_g8 m hm) (by decide) ⟨by omega, by omega⟩ (fun g6 hS6 => ?_)
        replace hS6 : t8E m g0 g6 (alB pic k) := hS6
        show t_X d 78 84 lv [] g6 P
        refine t_2 uty_84 rfl (w := (px_s1 lv 5 (oI ((k : Int) + 1)), [])) (pq_inc l5 (by decide)) ?_
        replace l0 : px_lg (px_s1 lv 5 (oI ((k : Int) + 1))) 0 = some (pvR (4 + 2 * m)) := s1_ne (by decide) (fun _ => rfl) l0
        have l5 : px_lg (px_s1 lv 5 (oI ((k : Int) + 1))) 5 = some (oI ((k : Int) + 1)) := s1_eq
        generalize px_s1 lv 5 (oI ((k : Int) + 1)) = lv7 at l0 l5 ⊢
        show t_X d 78 87 lv7 [] g6 P
        refine t_1 uty_87 rfl (pb_goto (pc := 87) (by decide)) ?_
        show t_X d 78 51 lv7 [] g6 P
        refine ih (k + 1) _ _ (by omega) (by omega) (by rw [alB_f q0]; exact hS6) l0 l5
    · skip
      refine t_0 uty_51 rfl (ld_i l5) ?_
      refine t_0 uty_53 rfl (pq_b (by decide)) ?_
      refine tb_ge uty_55 (by decide) ⟨by omega, by omega⟩ ⟨by omega, by omega⟩ (fun c1 => ?_) (fun c1 => absurd c1 (by omega))
      show t_X d 78 90 lv [] g P
      refine t_5 uty_90 rfl rfl ?_
      obtain rfl : k = 8 := by omega
      exact hP _ (S_J hS) (S_f hS 0 (Nat.le_of_ble_eq_true rfl))
theorem uty_run {m : Nat} (hm : m < 32) {d : Nat} (hd : 3 ≤ d) {g0 : pH} {pic : tC} (hp : fA g0 (5 + 2 * m) = pic) {P : Option pv × pH → Prop} (hP : ∀ g1 : pH, J_ (tW8 m) g0 g1 → cF g1 (4 + 2 * m) 8 = alB pic 8 → P (none, g1)) (hG : g_I eG g0) (h8 : cF g0 (4 + 2 * m) 8 = 0) {lv : List (Nat × pv)} (l0 : px_lg lv 0 = some (pvR (4 + 2 * m))) : t_X d 78 48 lv [] g0 P := by
  have hS : t8E m g0 g0 0 := ⟨J_rf hG, fun i hi => by
    have hi : i < 1 := hi
    rw [show i = 0 by omega]
    exact h8, fun i hi => absurd hi (Nat.not_lt_zero i)⟩
  refine t_0 uty_48 rfl rfl ?_
  refine t_2 uty_49 rfl (w := (px_s1 lv 5 (oI 0), [])) rfl ?_
  replace l0 : px_lg (px_s1 lv 5 (oI 0)) 0 = some (pvR (4 + 2 * m)) := s1_ne (by decide) (fun _ => rfl) l0
  have l5 : px_lg (px_s1 lv 5 (oI 0)) 5 = some (oI 0) := s1_eq
  generalize px_s1 lv 5 (oI 0) = lv1 at l0 l5 ⊢
  show t_X d 78 51 lv1 [] g0 P
  exact uty_loop hm hd hp hP 8 0 _ _ (by omega) (by omega) hS l0 l5
