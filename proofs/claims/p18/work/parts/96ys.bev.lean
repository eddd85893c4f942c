/-! the law as it is asked, by letters (printed by wip/e2/x9.py) -/
theorem nbl_0 : xe_look (xc 173) 0 = some (.iconst 0, 1, 0, 0, 0) := by decide +kernel
theorem nbl_1 : xe_look (xc 173) 1 = some (.istore_n 3, 1, 0, 0, 0) := by decide +kernel
theorem nbl_2 : xe_look (xc 173) 2 = some (.iload_n 3, 1, 0, 0, 0) := by decide +kernel
theorem nbl_3 : xe_look (xc 173) 3 = some (.aload_n 0, 1, 0, 0, 0) := by decide +kernel
theorem nbl_4 : xe_look (xc 173) 4 = some (.getfield 362, 3, 12, 35, 1124) := by decide +kernel
theorem nbl_7 : xe_look (xc 173) 7 = some (.if_icmp .ge 82, 3, 0, 0, 0) := by decide +kernel
theorem nbl_10 : xe_look (xc 173) 10 = some (.aload_n 0, 1, 0, 0, 0) := by decide +kernel
theorem nbl_11 : xe_look (xc 173) 11 = some (.getfield 89, 3, 12, 43, 1125) := by decide +kernel
theorem nbl_14 : xe_look (xc 173) 14 = some (.iload_n 3, 1, 0, 0, 0) := by decide +kernel
theorem nbl_15 : xe_look (xc 173) 15 = some (.iaload, 1, 0, 0, 0) := by decide +kernel
theorem nbl_16 : xe_look (xc 173) 16 = some (.iload_n 1, 1, 0, 0, 0) := by decide +kernel
theorem nbl_17 : xe_look (xc 173) 17 = some (.if_icmp .ne 66, 3, 0, 0, 0) := by decide +kernel
theorem nbl_20 : xe_look (xc 173) 20 = some (.aload_n 0, 1, 0, 0, 0) := by decide +kernel
theorem nbl_21 : xe_look (xc 173) 21 = some (.aload_n 0, 1, 0, 0, 0) := by decide +kernel
theorem nbl_22 : xe_look (xc 173) 22 = some (.getfield 95, 3, 12, 45, 1126) := by decide +kernel
theorem nbl_25 : xe_look (xc 173) 25 = some (.iload_n 3, 1, 0, 0, 0) := by decide +kernel
theorem nbl_26 : xe_look (xc 173) 26 = some (.iaload, 1, 0, 0, 0) := by decide +kernel
theorem nbl_27 : xe_look (xc 173) 27 = some (.aload_n 0, 1, 0, 0, 0) := by decide +kernel
theorem nbl_28 : xe_look (xc 173) 28 = some (.getfield 98, 3, 12, 46, 1127) := by decide +kernel
theorem nbl_31 : xe_look (xc 173) 31 = some (.iload_n 3, 1, 0, 0, 0) := by decide +kernel
theorem nbl_32 : xe_look (xc 173) 32 = some (.iaload, 1, 0, 0, 0) := by decide +kernel
theorem nbl_33 : xe_look (xc 173) 33 = some (.invokevirtual 369, 3, 0, 178, 1128) := by decide +kernel
theorem nbl_36 : xe_look (xc 173) 36 = some (.iconst 1, 1, 0, 0, 0) := by decide +kernel
theorem nbl_37 : xe_look (xc 173) 37 = some (.if_icmp .eq 6, 3, 0, 0, 0) := by decide +kernel
theorem nbl_40 : xe_look (xc 173) 40 = some (.goto 43, 3, 0, 0, 0) := by decide +kernel
theorem nbl_43 : xe_look (xc 173) 43 = some (.aload_n 0, 1, 0, 0, 0) := by decide +kernel
theorem nbl_44 : xe_look (xc 173) 44 = some (.aload_n 0, 1, 0, 0, 0) := by decide +kernel
theorem nbl_45 : xe_look (xc 173) 45 = some (.getfield 92, 3, 12, 44, 1129) := by decide +kernel
theorem nbl_48 : xe_look (xc 173) 48 = some (.iload_n 3, 1, 0, 0, 0) := by decide +kernel
theorem nbl_49 : xe_look (xc 173) 49 = some (.iaload, 1, 0, 0, 0) := by decide +kernel
theorem nbl_50 : xe_look (xc 173) 50 = some (.aload_n 0, 1, 0, 0, 0) := by decide +kernel
theorem nbl_51 : xe_look (xc 173) 51 = some (.getfield 95, 3, 12, 45, 1126) := by decide +kernel
theorem nbl_54 : xe_look (xc 173) 54 = some (.iload_n 3, 1, 0, 0, 0) := by decide +kernel
theorem nbl_55 : xe_look (xc 173) 55 = some (.iaload, 1, 0, 0, 0) := by decide +kernel
theorem nbl_56 : xe_look (xc 173) 56 = some (.invokevirtual 369, 3, 0, 178, 1128) := by decide +kernel
theorem nbl_59 : xe_look (xc 173) 59 = some (.istore 4, 2, 0, 0, 0) := by decide +kernel
theorem nbl_61 : xe_look (xc 173) 61 = some (.iload 4, 2, 0, 0, 0) := by decide +kernel
theorem nbl_63 : xe_look (xc 173) 63 = some (.ifCond .ge 7, 3, 0, 0, 0) := by decide +kernel
theorem nbl_66 : xe_look (xc 173) 66 = some (.iconst 0, 1, 0, 0, 0) := by decide +kernel
theorem nbl_67 : xe_look (xc 173) 67 = some (.goto 15, 3, 0, 0, 0) := by decide +kernel
theorem nbl_70 : xe_look (xc 173) 70 = some (.iload 4, 2, 0, 0, 0) := by decide +kernel
theorem nbl_72 : xe_look (xc 173) 72 = some (.iload_n 2, 1, 0, 0, 0) := by decide +kernel
theorem nbl_73 : xe_look (xc 173) 73 = some (.if_icmp .le 7, 3, 0, 0, 0) := by decide +kernel
theorem nbl_76 : xe_look (xc 173) 76 = some (.iload_n 2, 1, 0, 0, 0) := by decide +kernel
theorem nbl_77 : xe_look (xc 173) 77 = some (.goto 5, 3, 0, 0, 0) := by decide +kernel
theorem nbl_80 : xe_look (xc 173) 80 = some (.iload 4, 2, 0, 0, 0) := by decide +kernel
theorem nbl_82 : xe_look (xc 173) 82 = some (.ireturn, 1, 0, 0, 0) := by decide +kernel
theorem nbl_83 : xe_look (xc 173) 83 = some (.iinc 3 1, 3, 0, 0, 0) := by decide +kernel
theorem nbl_86 : xe_look (xc 173) 86 = some (.goto (-84), 3, 0, 0, 0) := by decide +kernel
theorem nbl_89 : xe_look (xc 173) 89 = some (.iconst 0, 1, 0, 0, 0) := by decide +kernel
theorem nbl_90 : xe_look (xc 173) 90 = some (.ireturn, 1, 0, 0, 0) := by decide +kernel
theorem rvo_0 : xe_look (xc 40) 0 = some (.iconst 0, 1, 0, 0, 0) := by decide +kernel
theorem rvo_1 : xe_look (xc 40) 1 = some (.istore 4, 2, 0, 0, 0) := by decide +kernel
theorem rvo_3 : xe_look (xc 40) 3 = some (.iload 4, 2, 0, 0, 0) := by decide +kernel
theorem rvo_5 : xe_look (xc 40) 5 = some (.aload_n 0, 1, 0, 0, 0) := by decide +kernel
theorem rvo_6 : xe_look (xc 40) 6 = some (.getfield 33, 3, 3, 0, 835) := by decide +kernel
theorem rvo_9 : xe_look (xc 40) 9 = some (.if_icmp .ge 81, 3, 0, 0, 0) := by decide +kernel
theorem rvo_12 : xe_look (xc 40) 12 = some (.iload 4, 2, 0, 0, 0) := by decide +kernel
theorem rvo_14 : xe_look (xc 40) 14 = some (.bipush 16, 2, 0, 0, 0) := by decide +kernel
theorem rvo_16 : xe_look (xc 40) 16 = some (.if_icmp .ge 74, 3, 0, 0, 0) := by decide +kernel
theorem rvo_19 : xe_look (xc 40) 19 = some (.aload_n 0, 1, 0, 0, 0) := by decide +kernel
theorem rvo_20 : xe_look (xc 40) 20 = some (.getfield 18, 3, 3, 5, 841) := by decide +kernel
theorem rvo_23 : xe_look (xc 40) 23 = some (.iload 4, 2, 0, 0, 0) := by decide +kernel
theorem rvo_25 : xe_look (xc 40) 25 = some (.iaload, 1, 0, 0, 0) := by decide +kernel
theorem rvo_26 : xe_look (xc 40) 26 = some (.iload_n 1, 1, 0, 0, 0) := by decide +kernel
theorem rvo_27 : xe_look (xc 40) 27 = some (.if_icmp .ne 57, 3, 0, 0, 0) := by decide +kernel
theorem rvo_30 : xe_look (xc 40) 30 = some (.aload_n 0, 1, 0, 0, 0) := by decide +kernel
theorem rvo_31 : xe_look (xc 40) 31 = some (.aload_n 0, 1, 0, 0, 0) := by decide +kernel
theorem rvo_32 : xe_look (xc 40) 32 = some (.getfield 24, 3, 3, 7, 843) := by decide +kernel
theorem rvo_35 : xe_look (xc 40) 35 = some (.iload 4, 2, 0, 0, 0) := by decide +kernel
theorem rvo_37 : xe_look (xc 40) 37 = some (.iaload, 1, 0, 0, 0) := by decide +kernel
theorem rvo_38 : xe_look (xc 40) 38 = some (.aload_n 0, 1, 0, 0, 0) := by decide +kernel
theorem rvo_39 : xe_look (xc 40) 39 = some (.getfield 27, 3, 3, 8, 837) := by decide +kernel
theorem rvo_42 : xe_look (xc 40) 42 = some (.iload 4, 2, 0, 0, 0) := by decide +kernel
theorem rvo_44 : xe_look (xc 40) 44 = some (.iaload, 1, 0, 0, 0) := by decide +kernel
theorem rvo_45 : xe_look (xc 40) 45 = some (.aload_n 3, 1, 0, 0, 0) := by decide +kernel
theorem rvo_46 : xe_look (xc 40) 46 = some (.invokevirtual 44, 3, 0, 38, 848) := by decide +kernel
theorem rvo_49 : xe_look (xc 40) 49 = some (.ifCond .eq 35, 3, 0, 0, 0) := by decide +kernel
theorem rvo_52 : xe_look (xc 40) 52 = some (.aload_n 0, 1, 0, 0, 0) := by decide +kernel
theorem rvo_53 : xe_look (xc 40) 53 = some (.aload_n 0, 1, 0, 0, 0) := by decide +kernel
theorem rvo_54 : xe_look (xc 40) 54 = some (.getfield 21, 3, 3, 6, 842) := by decide +kernel
theorem rvo_57 : xe_look (xc 40) 57 = some (.iload 4, 2, 0, 0, 0) := by decide +kernel
theorem rvo_59 : xe_look (xc 40) 59 = some (.iaload, 1, 0, 0, 0) := by decide +kernel
theorem rvo_60 : xe_look (xc 40) 60 = some (.aload_n 0, 1, 0, 0, 0) := by decide +kernel
theorem rvo_61 : xe_look (xc 40) 61 = some (.getfield 24, 3, 3, 7, 843) := by decide +kernel
theorem rvo_64 : xe_look (xc 40) 64 = some (.iload 4, 2, 0, 0, 0) := by decide +kernel
theorem rvo_66 : xe_look (xc 40) 66 = some (.iaload, 1, 0, 0, 0) := by decide +kernel
theorem rvo_67 : xe_look (xc 40) 67 = some (.aload_n 3, 1, 0, 0, 0) := by decide +kernel
theorem rvo_68 : xe_look (xc 40) 68 = some (.invokevirtual 44, 3, 0, 38, 848) := by decide +kernel
theorem rvo_71 : xe_look (xc 40) 71 = some (.istore 5, 2, 0, 0, 0) := by decide +kernel
theorem rvo_73 : xe_look (xc 40) 73 = some (.iconst 0, 1, 0, 0, 0) := by decide +kernel
theorem rvo_74 : xe_look (xc 40) 74 = some (.iload 5, 2, 0, 0, 0) := by decide +kernel
theorem rvo_76 : xe_look (xc 40) 76 = some (.iload_n 2, 1, 0, 0, 0) := by decide +kernel
theorem rvo_77 : xe_look (xc 40) 77 = some (.invokestatic 48, 3, 3, 0, 849) := by decide +kernel
theorem rvo_80 : xe_look (xc 40) 80 = some (.invokestatic 54, 3, 2, 0, 846) := by decide +kernel
theorem rvo_83 : xe_look (xc 40) 83 = some (.ireturn, 1, 0, 0, 0) := by decide +kernel
theorem rvo_84 : xe_look (xc 40) 84 = some (.iinc 4 1, 3, 0, 0, 0) := by decide +kernel
theorem rvo_87 : xe_look (xc 40) 87 = some (.goto (-84), 3, 0, 0, 0) := by decide +kernel
theorem rvo_90 : xe_look (xc 40) 90 = some (.iconst 0, 1, 0, 0, 0) := by decide +kernel
theorem rvo_91 : xe_look (xc 40) 91 = some (.ireturn, 1, 0, 0, 0) := by decide +kernel
def i32R (x : Int) : Prop := -2147483648 ≤ x ∧ x ≤ 2147483647
theorem am_g {o v f : tC} {e a : Nat} {D : Nat → Nat × Bool} (hf : ∀ j, i32R (f j)) (hst : ∀ k, a ≤ k → k < e → wst o v D k e) : ∀ (m k n : Nat) (s : tC), a ≤ k → (∀ j, i32R (s j)) → i32R (am o v f e m k n s) := by
  have up : ∀ {n : Nat} {s : tC} {x : Int}, (∀ j, i32R (s j)) → i32R x → ∀ j, i32R (updI s n x j) := fun {n s x} h hx j => by
    by_cases q : j = n
    · rw [q, wu_e]
      exact hx
    · rw [wu_n q]
      exact h j
  intro m
  induction m with
  | zero =>
    intro k n s hak hs
    exact hs 0
  | succ m ih =>
    intro k n s hak hs
    by_cases hke : k < e
    · rcases hst k hak hke with ⟨hO | hO, hD1⟩ | ⟨hO, hV, hD0, hb, hD1⟩ | ⟨hO | hO, hD0, hb, hD1, t, hV, htk, hte, hDt⟩ | ⟨hB1, hB2, hV, hD0, hD1⟩
      · rw [am_0 hke hO.1]
        exact ih _ _ _ (by omega) (up hs ⟨by omega, by omega⟩)
      · rw [am_1 hke hO.1]
        exact ih _ _ _ (by omega) (up hs (hf _))
      · rw [am_n hke hO]
        exact ih _ _ _ (by omega) (up hs (b32_b _))
      · by_cases hz : s (n - 1) = 0
        · rw [am_a hke hO hz]
          exact ih _ _ _ (by omega) hs
        · rw [am_a2 hke hO hz]
          exact ih _ _ _ (by omega) hs
      · by_cases hz : s (n - 1) = 0
        · rw [am_o2 hke hO hz]
          exact ih _ _ _ (by omega) hs
        · rw [am_o hke hO hz]
          exact ih _ _ _ (by omega) hs
      · by_cases hr : (o k = 5 ∨ o k = 6) ∧ s (n - 1) = 0
        · rw [am_r hke ⟨hB1, hB2⟩ hr]
          exact ⟨by decide, by decide⟩
        · rw [am_b hke ⟨hB1, hB2⟩ hr]
          exact ih _ _ _ (by omega) (up hs (aop_b _ _ _))
    · rw [am_e (by omega)]
      exact hs 0
/-- what codes come to -/
def aE (o v f : tC) (a e : Nat) : Int := am o v f e (e - a) a 0 (fun _ => 0)
theorem aE_b {o v f : tC} {a e : Nat} {y : Nat × Bool} (hf : ∀ j, i32R (f j)) (w : wOK o v 16 (0, false) y a e) : i32R (aE o v f a e) := by
  obtain ⟨h0, D, h1, h2, h3, h4⟩ := w
  exact am_g hf h4 _ _ _ _ (Nat.le_refl a) (fun _ => ⟨by decide, by decide⟩)
theorem aE_t {o v f : tC} {a e : Nat} (w : wOK o v 16 (0, false) (1, true) a e) : aE o v f a e = 0 ∨ aE o v f a e = 1 := by
  obtain ⟨h0, D, h1, h2, h3, h4⟩ := w
  exact am_t h4 h2 _ _ _ _ (by omega) (Nat.le_refl a) h0 (by rw [h1]) (fun z => by rw [h1] at z; cases z)
theorem rE_J {K : Nat} {g0 g : pH} (hJ : J_ (rW K) g0 g) : rE K g0 g (cF g K 2) (fA g (K + 7)) := by
  refine ⟨hJ, fun i hi => ?_, fun i hi => ?_⟩
  · have hi : i < 1 := hi
    have e : i = 0 := by omega
    subst e
    rfl
  · have hi : i < 1 := hi
    have e : i = 0 := by omega
    subst e
    rfl
theorem qE_J {g0 g : pH} (hJ : J_ qW g0 g) : qE g0 g (fA g 227) := by
  refine ⟨hJ, fun i hi => absurd hi (Nat.not_lt_zero _), fun i hi => ?_⟩
  have hi : i < 1 := hi
  have e : i = 0 := by omega
  subst e
  rfl
theorem rrw_run {K : Nat} (hK : lK K) {d : Nat} (hd : 2 ≤ d) {g0 : pH} {o v f : tC} (ho : fA g0 (K + 1) = o) (hv : fA g0 (K + 2) = v) (hf : fA g0 173 = f) {a e : Nat} {t : Bool} (w : wOK o v 16 (0, false) (1, t) a e) (he : e ≤ 240) {P : Option pv × pH → Prop} {g : pH} {rf : Int} {s : tC} (hS : rE K g0 g rf s) (hP : ∀ g' : pH, J_ (rW K) g0 g' → P (some (oI (aE o v f a e)), g')) {lv : List (Nat × pv)} (l0 : px_lg lv 0 = some (pvR K)) (l1 : px_lg lv 1 = some (oI (a : Int))) (l2 : px_lg lv 2 = some (oI (e : Int))) (l3 : px_lg lv 3 = some (pvR 173)) : t_X d 38 0 lv [] g P := by
  obtain ⟨h0, D, h1, h2, h3, h4⟩ := w
  refine rre_run hK hd ho hv hf he h4 h3 (by rw [h2]) h0 (by rw [h1]) hS (fun g' J' => ?_) l0 l1 l2 l3
  have hp := hP g' J'
  unfold aE at hp
  rw [am_c h4 (by rw [h2]) (e - a) a 0 s (fun _ => 0) (by omega) (Nat.le_refl a) h0 (by rw [h1]) (fun j hj => absurd hj (Nat.not_lt_zero j))]
  exact hp
theorem qrw_run {d : Nat} (hd : 1 ≤ d) {g0 : pH} {o v f : tC} {a e : Nat} (hC : ∀ j, j < e → fA g0 222 j = 1048576 * o j + v j) (hf : fA g0 228 = f) {t : Bool} (w : wOK o v 16 (0, false) (1, t) a e) (he : e ≤ 240) {P : Option pv × pH → Prop} {g : pH} {s : tC} (hS : qE g0 g s) (hP : ∀ g' : pH, J_ qW g0 g' → P (some (oI (aE o v f a e)), g')) {lv : List (Nat × pv)} (l0 : px_lg lv 0 = some (pvR 196)) (l1 : px_lg lv 1 = some (oI (a : Int))) (l2 : px_lg lv 2 = some (oI (e : Int))) : t_X d 178 0 lv [] g P := by
  obtain ⟨h0, D, h1, h2, h3, h4⟩ := w
  refine nct_run hd hC hf he h4 h3 (by rw [h2]) h0 h1 hS (fun g' J' => ?_) l0 l1 l2
  have hp := hP g' J'
  unfold aE at hp
  rw [am_c h4 (by rw [h2]) (e - a) a 0 s (fun _ => 0) (by omega) (Nat.le_refl a) h0 (by rw [h1]) (fun j hj => absurd hj (Nat.not_lt_zero j))]
  exact hp
def aCl (hi x : Int) : Int := if x < 0 then 0 else if hi < x then hi else x
/-- the first clause of a letter that holds, from q on -/
def aW (o v f le st co en : tC) (lt hi : Int) : Nat → Nat → Int
  | 0, _ => 0
  | m + 1, q => if le q = lt ∧ aE o v f (co q).toNat (en q).toNat ≠ 0 then aCl hi (aE o v f (st q).toNat (co q).toNat) else aW o v f le st co en lt hi m (q + 1)
theorem aW_y {o v f le st co en : tC} {lt hi : Int} {m q : Nat} (h1 : le q = lt) (h2 : aE o v f (co q).toNat (en q).toNat ≠ 0) : aW o v f le st co en lt hi (m + 1) q = aCl hi (aE o v f (st q).toNat (co q).toNat) := if_pos ⟨h1, h2⟩
theorem aW_n {o v f le st co en : tC} {lt hi : Int} {m q : Nat} (h : ¬ (le q = lt ∧ aE o v f (co q).toNat (en q).toNat ≠ 0)) : aW o v f le st co en lt hi (m + 1) q = aW o v f le st co en lt hi m (q + 1) := if_neg h
/-- what a letter comes to -/
def aV (o v f le st co en : tC) (c : Int) (lt hi : Int) : Int := aW o v f le st co en lt hi c.toNat 0
theorem rgu_223 : eG (cn 223) = ((-2147483648), 2147483647, []) := by decide +kernel
theorem rgu_224 : eG (cn 224) = ((-2147483648), 2147483647, []) := by decide +kernel
theorem rgu_225 : eG (cn 225) = ((-2147483648), 2147483647, []) := by decide +kernel
theorem rgu_226 : eG (cn 226) = ((-2147483648), 2147483647, []) := by decide +kernel
theorem rch_196_43 : (eG (cn 196 + 43)).2.2 = [224] := by decide +kernel
theorem rcq_196_43 {d i : Nat} {lv : List (Nat × pv)} {r : List pv} {g : pH} (hG : g_I eG g) : px_push eL d none (.getfield i) 12 43 lv (pvR 196 :: r) g = some (pvR 223 :: r) := pget reo_196 (gI_r (r := 223) hG reo_196 (Nat.le_of_ble_eq_true rfl) (y := 43) rfl rch_196_43)
theorem rch_196_44 : (eG (cn 196 + 44)).2.2 = [225] := by decide +kernel
theorem rcq_196_44 {d i : Nat} {lv : List (Nat × pv)} {r : List pv} {g : pH} (hG : g_I eG g) : px_push eL d none (.getfield i) 12 44 lv (pvR 196 :: r) g = some (pvR 224 :: r) := pget reo_196 (gI_r (r := 224) hG reo_196 (Nat.le_of_ble_eq_true rfl) (y := 44) rfl rch_196_44)
theorem rch_196_45 : (eG (cn 196 + 45)).2.2 = [226] := by decide +kernel
theorem rcq_196_45 {d i : Nat} {lv : List (Nat × pv)} {r : List pv} {g : pH} (hG : g_I eG g) : px_push eL d none (.getfield i) 12 45 lv (pvR 196 :: r) g = some (pvR 225 :: r) := pget reo_196 (gI_r (r := 225) hG reo_196 (Nat.le_of_ble_eq_true rfl) (y := 45) rfl rch_196_45)
theorem rch_196_46 : (eG (cn 196 + 46)).2.2 = [227] := by decide +kernel
theorem rcq_196_46 {d i : Nat} {lv : List (Nat × pv)} {r : List pv} {g : pH} (hG : g_I eG g) : px_push eL d none (.getfield i) 12 46 lv (pvR 196 :: r) g = some (pvR 226 :: r) := pget reo_196 (gI_r (r := 226) hG reo_196 (Nat.le_of_ble_eq_true rfl) (y := 46) rfl rch_196_46)
theorem rez_223 : eL[223]? = some (1, 16) := by decide +kernel
theorem rez_224 : eL[224]? = some (1, 16) := by decide +kernel
theorem rez_225 : eL[225]? = some (1, 16) := by decide +kernel
theorem rez_226 : eL[226]? = some (1, 16) := by decide +kernel
set_option maxHeartbeats 4000000 in
theorem rvoL {K : Nat} (hK : lK K) {d : Nat} (hd : 3 ≤ d) {g0 : pH} {o v f le st co en : tC} {c k1 : Int} (hc0 : cF g0 K 0 = c) (ho : fA g0 (K + 1) = o) (hv : fA g0 (K + 2) = v) (hle : fA g0 (K + 3) = le) (hst : fA g0 (K + 4) = st) (hco : fA g0 (K + 5) = co) (hen : fA g0 (K + 6) = en) (hf : fA g0 173 = f) (hfR : ∀ j, i32R (f j)) (hW : wCl k1 o v c st co en) (hk1 : k1 ≤ 240) (hc16 : c ≤ 16) {lt hi : Int} (hlt : 0 ≤ lt ∧ lt ≤ 200) (hhi : 0 ≤ hi ∧ hi ≤ 9999) {P : Option pv × pH → Prop} : ∀ (m q : Nat) (rf : Int) (s : tC) (g : pH), c - q = m → (q : Int) ≤ c → rE K g0 g rf s → (∀ g' : pH, J_ (rW K) g0 g' → P (some (oI (aW o v f le st co en lt hi m q)), g')) → ∀ {lv : List (Nat × pv)}, px_lg lv 0 = some (pvR K) → px_lg lv 1 = some (oI lt) → px_lg lv 2 = some (oI hi) → px_lg lv 3 = some (pvR 173) → px_lg lv 4 = some (oI (q : Int)) → t_X d 40 3 lv [] g P := by
  intro m
  induction m with
  | zero =>
    intro q rf s g hm hq hS hP lv l0 l1 l2 l3 l4
    have hm0 : aW o v f le st co en lt hi 0 q = 0 := rfl
    refine t_0 rvo_3 rfl (ld_i l4) ?_
    refine t_0 rvo_5 rfl (ld_a l0) ?_
    refine t_0 rvo_6 rfl (pq_cv (lk_e hK) rfl ((cF_M (S_J hS).2 (rk_n hK).1).trans hc0 : cF g K 0 = c)) ?_
    show t_X d 40 9 lv [oI (c), oI ((q : Int))] g P
    refine tb_ge rvo_9 (by decide) ⟨by omega, by omega⟩ ⟨by omega, by omega⟩ (fun c1 => ?_) (fun c1 => absurd c1 (by omega))
    show t_X d 40 90 lv [] g P
    refine t_0 rvo_90 rfl rfl ?_
    refine t_5 rvo_91 rfl rfl ?_
    have hp := hP _ (S_J hS)
    rw [hm0] at hp
    exact hp
  | succ m ih =>
    intro q rf s g hm hq hS hP lv l0 l1 l2 l3 l4
    obtain ⟨qa, qh, qe, q1, q2, q3, q4, w1, w2⟩ := hW.2.2 q (by omega)
    have x1 := w1.1
    have x2 := w2.1
    refine t_0 rvo_3 rfl (ld_i l4) ?_
    refine t_0 rvo_5 rfl (ld_a l0) ?_
    refine t_0 rvo_6 rfl (pq_cv (lk_e hK) rfl ((cF_M (S_J hS).2 (rk_n hK).1).trans hc0 : cF g K 0 = c)) ?_
    show t_X d 40 9 lv [oI (c), oI ((q : Int))] g P
    refine tb_ge rvo_9 (by decide) ⟨by omega, by omega⟩ ⟨by omega, by omega⟩ (fun c1 => absurd c1 (by omega)) (fun c1 => ?_)
    show t_X d 40 12 lv [] g P
    refine t_0 rvo_12 rfl (ld_i l4) ?_
    refine t_0 rvo_14 rfl (pq_b (by decide)) ?_
    refine tb_ge rvo_16 (by decide) ⟨by omega, by omega⟩ ⟨by omega, by omega⟩ (fun c2 => absurd c2 (by omega)) (fun c2 => ?_)
    show t_X d 40 19 lv [] g P
    refine t_0 rvo_19 rfl (ld_a l0) ?_
    refine t_0 rvo_20 rfl (lk_r5 hK (S_J hS).1) ?_
    show t_X d 40 23 lv [pvR (K + 3)] g P
    refine t_0 rvo_23 rfl (ld_i l4) ?_
    have r3 := pb_a (S_J hS).1 (lk_t3 hK) (j := q) (by omega) (lk_G3 hK) ((fA_M (S_J hS).2 (rk_n hK).2.2.2.1).trans hle : fA g (K + 3) = le)
    refine t_0 rvo_25 rfl (pq_iv (lk_t3 hK) rfl ⟨by omega, by omega⟩ ((fA_M (S_J hS).2 (rk_n hK).2.2.2.1).trans hle : fA g (K + 3) = le)) ?_
    show t_X d 40 26 lv [oI (le q)] g P
    refine t_0 rvo_26 rfl (ld_i l1) ?_
    refine tb_ne rvo_27 (by decide) ⟨by omega, by omega⟩ ⟨by omega, by omega⟩ (fun c4 => ?_) (fun c4 => ?_)
    · show t_X d 40 84 lv [] g P
      refine t_2 rvo_84 rfl (w := (px_s1 lv 4 (oI ((q : Int) + 1)), [])) (pq_inc l4 (by decide)) ?_
      replace l0 : px_lg (px_s1 lv 4 (oI ((q : Int) + 1))) 0 = some (pvR K) := s1_ne (by decide) (fun _ => rfl) l0
      replace l1 : px_lg (px_s1 lv 4 (oI ((q : Int) + 1))) 1 = some (oI (lt)) := s1_ne (by decide) (fun _ => rfl) l1
      replace l2 : px_lg (px_s1 lv 4 (oI ((q : Int) + 1))) 2 = some (oI (hi)) := s1_ne (by decide) (fun _ => rfl) l2
      replace l3 : px_lg (px_s1 lv 4 (oI ((q : Int) + 1))) 3 = some (pvR 173) := s1_ne (by decide) (fun _ => rfl) l3
      have l4 : px_lg (px_s1 lv 4 (oI ((q : Int) + 1))) 4 = some (oI ((q : Int) + 1)) := s1_eq
      generalize px_s1 lv 4 (oI ((q : Int) + 1)) = lv5 at l0 l1 l2 l3 l4 ⊢
      show t_X d 40 87 lv5 [] g P
      refine t_1 rvo_87 rfl (pb_goto (pc := 87) (by decide)) ?_
      show t_X d 40 3 lv5 [] g P
      refine ih (q + 1) _ _ _ (by omega) (by omega) hS (fun g9 J9 => ?_) l0 l1 l2 l3 l4
      have hp := hP g9 J9
      rw [aW_n (fun z => ?_)] at hp
      · exact hp
      · exact c4 z.1
    · show t_X d 40 30 lv [] g P
      refine t_0 rvo_30 rfl (ld_a l0) ?_
      refine t_0 rvo_31 rfl (ld_a l0) ?_
      refine t_0 rvo_32 rfl (lk_r7 hK (S_J hS).1) ?_
      show t_X d 40 35 lv [pvR (K + 5), pvR K] g P
      refine t_0 rvo_35 rfl (ld_i l4) ?_
      have r6 := pb_a (S_J hS).1 (lk_t5 hK) (j := q) (by omega) (lk_G5 hK) ((fA_M (S_J hS).2 (rk_n hK).2.2.2.2.2.1).trans hco : fA g (K + 5) = co)
      refine t_0 rvo_37 rfl (pq_iv (lk_t5 hK) rfl ⟨by omega, by omega⟩ ((fA_M (S_J hS).2 (rk_n hK).2.2.2.2.2.1).trans hco : fA g (K + 5) = co)) ?_
      show t_X d 40 38 lv [oI (co q), pvR K] g P
      rw [q2]
      show t_X d 40 38 lv [oI ((qh : Int)), pvR K] g P
      refine t_0 rvo_38 rfl (ld_a l0) ?_
      refine t_0 rvo_39 rfl (lk_r8 hK (S_J hS).1) ?_
      show t_X d 40 42 lv [pvR (K + 6), oI ((qh : Int)), pvR K] g P
      refine t_0 rvo_42 rfl (ld_i l4) ?_
      have r7 := pb_a (S_J hS).1 (lk_t6 hK) (j := q) (by omega) (lk_G6 hK) ((fA_M (S_J hS).2 (rk_n hK).2.2.2.2.2.2.1).trans hen : fA g (K + 6) = en)
      refine t_0 rvo_44 rfl (pq_iv (lk_t6 hK) rfl ⟨by omega, by omega⟩ ((fA_M (S_J hS).2 (rk_n hK).2.2.2.2.2.2.1).trans hen : fA g (K + 6) = en)) ?_
      show t_X d 40 45 lv [oI (en q), oI ((qh : Int)), pvR K] g P
      rw [q3]
      show t_X d 40 45 lv [oI ((qe : Int)), oI ((qh : Int)), pvR K] g P
      refine t_0 rvo_45 rfl (ld_a l3) ?_
      refine t_3 rvo_46 rfl (ar := ([pvR K, oI ((qh : Int)), oI ((qe : Int)), pvR 173], [])) (pcal_w (as := [pvR 173, oI ((qe : Int)), oI ((qh : Int))]) rfl rfl rfl (lk_e hK)) ⟨by omega, Nat.le_of_ble_eq_true rfl, Nat.le_of_ble_eq_true rfl, rfl⟩ ?_
      refine rrw_run hK (by omega) ho hv hf w2 (by omega) hS (fun g8 J8 => ?_) rfl rfl rfl rfl
      have hS8 := rE_J J8
      have hb8 := aE_b hfR w2
      unfold i32R at hb8
      show t_X d 40 49 lv [oI (aE o v f qh qe)] g8 P
      refine tz_eq rvo_49 (by decide) ⟨by omega, by omega⟩ (fun c9 => ?_) (fun c9 => ?_)
      · show t_X d 40 84 lv [] g8 P
        refine t_2 rvo_84 rfl (w := (px_s1 lv 4 (oI ((q : Int) + 1)), [])) (pq_inc l4 (by decide)) ?_
        replace l0 : px_lg (px_s1 lv 4 (oI ((q : Int) + 1))) 0 = some (pvR K) := s1_ne (by decide) (fun _ => rfl) l0
        replace l1 : px_lg (px_s1 lv 4 (oI ((q : Int) + 1))) 1 = some (oI (lt)) := s1_ne (by decide) (fun _ => rfl) l1
        replace l2 : px_lg (px_s1 lv 4 (oI ((q : Int) + 1))) 2 = some (oI (hi)) := s1_ne (by decide) (fun _ => rfl) l2
        replace l3 : px_lg (px_s1 lv 4 (oI ((q : Int) + 1))) 3 = some (pvR 173) := s1_ne (by decide) (fun _ => rfl) l3
        have l4 : px_lg (px_s1 lv 4 (oI ((q : Int) + 1))) 4 = some (oI ((q : Int) + 1)) := s1_eq
        generalize px_s1 lv 4 (oI ((q : Int) + 1)) = lv10 at l0 l1 l2 l3 l4 ⊢
        show t_X d 40 87 lv10 [] g8 P
        refine t_1 rvo_87 rfl (pb_goto (pc := 87) (by decide)) ?_
        show t_X d 40 3 lv10 [] g8 P
        refine ih (q + 1) _ _ _ (by omega) (by omega) hS8 (fun g9 J9 => ?_) l0 l1 l2 l3 l4
        have hp := hP g9 J9
        rw [aW_n (fun z => ?_)] at hp
        · exact hp
        · have z2 := z.2
          rw [q2, q3] at z2
          exact z2 (by show aE o v f qh qe = 0; omega)
      · show t_X d 40 52 lv [] g8 P
        refine t_0 rvo_52 rfl (ld_a l0) ?_
        refine t_0 rvo_53 rfl (ld_a l0) ?_
        refine t_0 rvo_54 rfl (lk_r6 hK (S_J hS8).1) ?_
        show t_X d 40 57 lv [pvR (K + 4), pvR K] g8 P
        refine t_0 rvo_57 rfl (ld_i l4) ?_
        have r11 := pb_a (S_J hS8).1 (lk_t4 hK) (j := q) (by omega) (lk_G4 hK) ((fA_M (S_J hS8).2 (rk_n hK).2.2.2.2.1).trans hst : fA g8 (K + 4) = st)
        refine t_0 rvo_59 rfl (pq_iv (lk_t4 hK) rfl ⟨by omega, by omega⟩ ((fA_M (S_J hS8).2 (rk_n hK).2.2.2.2.1).trans hst : fA g8 (K + 4) = st)) ?_
        show t_X d 40 60 lv [oI (st q), pvR K] g8 P
        rw [q1]
        show t_X d 40 60 lv [oI ((qa : Int)), pvR K] g8 P
        refine t_0 rvo_60 rfl (ld_a l0) ?_
        refine t_0 rvo_61 rfl (lk_r7 hK (S_J hS8).1) ?_
        show t_X d 40 64 lv [pvR (K + 5), oI ((qa : Int)), pvR K] g8 P
        refine t_0 rvo_64 rfl (ld_i l4) ?_
        have r12 := pb_a (S_J hS8).1 (lk_t5 hK) (j := q) (by omega) (lk_G5 hK) ((fA_M (S_J hS8).2 (rk_n hK).2.2.2.2.2.1).trans hco : fA g8 (K + 5) = co)
        refine t_0 rvo_66 rfl (pq_iv (lk_t5 hK) rfl ⟨by omega, by omega⟩ ((fA_M (S_J hS8).2 (rk_n hK).2.2.2.2.2.1).trans hco : fA g8 (K + 5) = co)) ?_
        show t_X d 40 67 lv [oI (co q), oI ((qa : Int)), pvR K] g8 P
        rw [q2]
        show t_X d 40 67 lv [oI ((qh : Int)), oI ((qa : Int)), pvR K] g8 P
        refine t_0 rvo_67 rfl (ld_a l3) ?_
        refine t_3 rvo_68 rfl (ar := ([pvR K, oI ((qa : Int)), oI ((qh : Int)), pvR 173], [])) (pcal_w (as := [pvR 173, oI ((qh : Int)), oI ((qa : Int))]) rfl rfl rfl (lk_e hK)) ⟨by omega, Nat.le_of_ble_eq_true rfl, Nat.le_of_ble_eq_true rfl, rfl⟩ ?_
        refine rrw_run hK (by omega) ho hv hf w1 (by omega) hS8 (fun g13 J13 => ?_) rfl rfl rfl rfl
        have hS13 := rE_J J13
        have hb13 := aE_b hfR w1
        unfold i32R at hb13
        show t_X d 40 71 lv [oI (aE o v f qa qh)] g13 P
        refine t_2 rvo_71 rfl (w := (px_s1 lv 5 (oI (aE o v f qa qh)), [])) rfl ?_
        replace l0 : px_lg (px_s1 lv 5 (oI (aE o v f qa qh))) 0 = some (pvR K) := s1_ne (by decide) (fun _ => rfl) l0
        replace l1 : px_lg (px_s1 lv 5 (oI (aE o v f qa qh))) 1 = some (oI (lt)) := s1_ne (by decide) (fun _ => rfl) l1
        replace l2 : px_lg (px_s1 lv 5 (oI (aE o v f qa qh))) 2 = some (oI (hi)) := s1_ne (by decide) (fun _ => rfl) l2
        replace l3 : px_lg (px_s1 lv 5 (oI (aE o v f qa qh))) 3 = some (pvR 173) := s1_ne (by decide) (fun _ => rfl) l3
        replace l4 : px_lg (px_s1 lv 5 (oI (aE o v f qa qh))) 4 = some (oI ((q : Int))) := s1_ne (by decide) (fun _ => rfl) l4
        have l5 : px_lg (px_s1 lv 5 (oI (aE o v f qa qh))) 5 = some (oI (aE o v f qa qh)) := s1_eq
        generalize px_s1 lv 5 (oI (aE o v f qa qh)) = lv14 at l0 l1 l2 l3 l4 l5 ⊢
        show t_X d 40 73 lv14 [] g13 P
        refine t_0 rvo_73 rfl rfl ?_
        refine t_0 rvo_74 rfl (ld_i l5) ?_
        refine t_0 rvo_76 rfl (ld_i l2) ?_
        refine t_0 rvo_77 rfl (pq_mi (by omega) (Nat.le_of_ble_eq_true rfl) ⟨by omega, by omega⟩ ⟨by omega, by omega⟩) ?_
        show t_X d 40 80 lv14 [oI ((if hi < (aE o v f qa qh) then hi else (aE o v f qa qh))), oI 0] g13 P
        have hcl : -2147483648 ≤ (if hi < (aE o v f qa qh) then hi else (aE o v f qa qh)) ∧ (if hi < (aE o v f qa qh) then hi else (aE o v f qa qh)) ≤ 2147483647 := by by_cases z : hi < aE o v f qa qh; { rw [if_pos z]; omega }; { rw [if_neg z]; omega }
        refine t_0 rvo_80 rfl (pq_mx (by omega) (Nat.le_of_ble_eq_true rfl) ⟨by omega, by omega⟩ hcl) ?_
        rw [show (if (0 : Int) < (if hi < (aE o v f qa qh) then hi else (aE o v f qa qh)) then (if hi < (aE o v f qa qh) then hi else (aE o v f qa qh)) else 0) = aCl hi (aE o v f qa qh) from by unfold aCl; by_cases z : hi < aE o v f qa qh; { rw [if_pos z, if_neg (show ¬ aE o v f qa qh < 0 by omega)]; by_cases z2 : 0 < hi; { rw [if_pos z2] }; { rw [if_neg z2]; omega } }; { rw [if_neg z]; by_cases z2 : aE o v f qa qh < 0; { rw [if_pos z2, if_neg (by omega)] }; { rw [if_neg z2]; by_cases z3 : 0 < aE o v f qa qh; { rw [if_pos z3] }; { rw [if_neg z3]; omega } } }]
        show t_X d 40 83 lv14 [oI (aCl hi (aE o v f qa qh))] g13 P
        refine t_5 rvo_83 rfl rfl ?_
        have hp := hP _ (S_J hS13)
        rw [aW_y c4 (by rw [q2, q3]; show aE o v f qh qe ≠ 0; omega), q1, q2] at hp
        exact hp
set_option maxHeartbeats 1000000 in
theorem rvo_run {K : Nat} (hK : lK K) {d : Nat} (hd : 3 ≤ d) {g0 : pH} {o v f le st co en : tC} {c k1 : Int} (hc0 : cF g0 K 0 = c) (ho : fA g0 (K + 1) = o) (hv : fA g0 (K + 2) = v) (hle : fA g0 (K + 3) = le) (hst : fA g0 (K + 4) = st) (hco : fA g0 (K + 5) = co) (hen : fA g0 (K + 6) = en) (hf : fA g0 173 = f) (hfR : ∀ j, i32R (f j)) (hW : wCl k1 o v c st co en) (hk1 : k1 ≤ 240) (hc16 : c ≤ 16) {lt hi : Int} (hlt : 0 ≤ lt ∧ lt ≤ 200) (hhi : 0 ≤ hi ∧ hi ≤ 9999) {P : Option pv × pH → Prop} {rf : Int} {s : tC} {g : pH} (hS : rE K g0 g rf s) (hP : ∀ g' : pH, J_ (rW K) g0 g' → P (some (oI (aV o v f le st co en c lt hi)), g')) {lv : List (Nat × pv)} (l0 : px_lg lv 0 = some (pvR K)) (l1 : px_lg lv 1 = some (oI lt)) (l2 : px_lg lv 2 = some (oI hi)) (l3 : px_lg lv 3 = some (pvR 173)) : t_X d 40 0 lv [] g P := by
  have hc01 := hW.2.1
  refine t_0 rvo_0 rfl rfl ?_
  refine t_2 rvo_1 rfl (w := (px_s1 lv 4 (oI 0), [])) rfl ?_
  replace l0 : px_lg (px_s1 lv 4 (oI 0)) 0 = some (pvR K) := s1_ne (by decide) (fun _ => rfl) l0
  replace l1 : px_lg (px_s1 lv 4 (oI 0)) 1 = some (oI (lt)) := s1_ne (by decide) (fun _ => rfl) l1
  replace l2 : px_lg (px_s1 lv 4 (oI 0)) 2 = some (oI (hi)) := s1_ne (by decide) (fun _ => rfl) l2
  replace l3 : px_lg (px_s1 lv 4 (oI 0)) 3 = some (pvR 173) := s1_ne (by decide) (fun _ => rfl) l3
  have l4 : px_lg (px_s1 lv 4 (oI 0)) 4 = some (oI 0) := s1_eq
  generalize px_s1 lv 4 (oI 0) = lv1 at l0 l1 l2 l3 l4 ⊢
  show t_X d 40 3 lv1 [] g P
  exact rvoL hK hd hc0 ho hv hle hst hco hen hf hfR hW hk1 hc16 hlt hhi c.toNat 0 _ _ _ (by omega) (by omega) hS hP l0 l1 l2 l3 l4
set_option maxHeartbeats 4000000 in
theorem nblL {d : Nat} (hd : 2 ≤ d) {g0 : pH} {o v f le st co en : tC} {c k1 : Int} (hc0 : cF g0 196 35 = c) (hC : ∀ j : Nat, (j : Int) < k1 → fA g0 222 j = 1048576 * o j + v j) (hX : ∀ j : Nat, (j : Int) < c → fA g0 223 j = le j ∧ fA g0 224 j = st j ∧ fA g0 225 j = co j ∧ fA g0 226 j = en j) (hf : fA g0 228 = f) (hfR : ∀ j, i32R (f j)) (hW : wCl k1 o v c st co en) (hk1 : k1 ≤ 240) (hc16 : c ≤ 16) {lt hi : Int} (hlt : 0 ≤ lt ∧ lt ≤ 200) (hhi : 0 ≤ hi ∧ hi ≤ 9999) {P : Option pv × pH → Prop} : ∀ (m q : Nat) (s : tC) (g : pH), c - q = m → (q : Int) ≤ c → qE g0 g s → (∀ g' : pH, J_ qW g0 g' → P (some (oI (aW o v f le st co en lt hi m q)), g')) → ∀ {lv : List (Nat × pv)}, px_lg lv 0 = some (pvR 196) → px_lg lv 1 = some (oI lt) → px_lg lv 2 = some (oI hi) → px_lg lv 3 = some (oI (q : Int)) → t_X d 173 2 lv [] g P := by
  intro m
  induction m with
  | zero =>
    intro q s g hm hq hS hP lv l0 l1 l2 l3
    have hm0 : aW o v f le st co en lt hi 0 q = 0 := rfl
    refine t_0 nbl_2 rfl (ld_i l3) ?_
    refine t_0 nbl_3 rfl (ld_a l0) ?_
    refine t_0 nbl_4 rfl (pq_cv reo_196 rfl ((cF_M (S_J hS).2 qc_n.1).trans hc0 : cF g 196 35 = c)) ?_
    show t_X d 173 7 lv [oI (c), oI ((q : Int))] g P
    refine tb_ge nbl_7 (by decide) ⟨by omega, by omega⟩ ⟨by omega, by omega⟩ (fun c1 => ?_) (fun c1 => absurd c1 (by omega))
    show t_X d 173 89 lv [] g P
    refine t_0 nbl_89 rfl rfl ?_
    refine t_5 nbl_90 rfl rfl ?_
    have hp := hP _ (S_J hS)
    rw [hm0] at hp
    exact hp
  | succ m ih =>
    intro q s g hm hq hS hP lv l0 l1 l2 l3
    obtain ⟨qa, qh, qe, q1, q2, q3, q4, w1, w2⟩ := hW.2.2 q (by omega)
    have x1 := w1.1
    have x2 := w2.1
    refine t_0 nbl_2 rfl (ld_i l3) ?_
    refine t_0 nbl_3 rfl (ld_a l0) ?_
    refine t_0 nbl_4 rfl (pq_cv reo_196 rfl ((cF_M (S_J hS).2 qc_n.1).trans hc0 : cF g 196 35 = c)) ?_
    show t_X d 173 7 lv [oI (c), oI ((q : Int))] g P
    refine tb_ge nbl_7 (by decide) ⟨by omega, by omega⟩ ⟨by omega, by omega⟩ (fun c1 => absurd c1 (by omega)) (fun c1 => ?_)
    show t_X d 173 10 lv [] g P
    refine t_0 nbl_10 rfl (ld_a l0) ?_
    refine t_0 nbl_11 rfl (rcq_196_43 (S_J hS).1) ?_
    show t_X d 173 14 lv [pvR 223] g P
    refine t_0 nbl_14 rfl (ld_i l3) ?_
    have r2 : fA g 223 q = le q := (congrFun (fA_M (S_J hS).2 qc_n.2.1) q).trans (hX q (by omega)).1
    have rb2 := pb_a (S_J hS).1 rez_223 (j := q) (by omega) rgu_223 rfl
    refine t_0 nbl_15 rfl (pq_iv rez_223 rfl ⟨by omega, by omega⟩ (rfl : fA g 223 = fA g 223)) ?_
    show t_X d 173 16 lv [oI (fA g 223 q)] g P
    rw [r2] at rb2 ⊢
    show t_X d 173 16 lv [oI (le q)] g P
    refine t_0 nbl_16 rfl (ld_i l1) ?_
    refine tb_ne nbl_17 (by decide) ⟨by omega, by omega⟩ ⟨by omega, by omega⟩ (fun c3 => ?_) (fun c3 => ?_)
    · show t_X d 173 83 lv [] g P
      refine t_2 nbl_83 rfl (w := (px_s1 lv 3 (oI ((q : Int) + 1)), [])) (pq_inc l3 (by decide)) ?_
      replace l0 : px_lg (px_s1 lv 3 (oI ((q : Int) + 1))) 0 = some (pvR 196) := s1_ne (by decide) (fun _ => rfl) l0
      replace l1 : px_lg (px_s1 lv 3 (oI ((q : Int) + 1))) 1 = some (oI (lt)) := s1_ne (by decide) (fun _ => rfl) l1
      replace l2 : px_lg (px_s1 lv 3 (oI ((q : Int) + 1))) 2 = some (oI (hi)) := s1_ne (by decide) (fun _ => rfl) l2
      have l3 : px_lg (px_s1 lv 3 (oI ((q : Int) + 1))) 3 = some (oI ((q : Int) + 1)) := s1_eq
      generalize px_s1 lv 3 (oI ((q : Int) + 1)) = lv4 at l0 l1 l2 l3 ⊢
      show t_X d 173 86 lv4 [] g P
      refine t_1 nbl_86 rfl (pb_goto (pc := 86) (by decide)) ?_
      show t_X d 173 2 lv4 [] g P
      refine ih (q + 1) _ _ (by omega) (by omega) hS (fun g9 J9 => ?_) l0 l1 l2 l3
      have hp := hP g9 J9
      rw [aW_n (fun z => ?_)] at hp
      · exact hp
      · exact c3 z.1
    · show t_X d 173 20 lv [] g P
      refine t_0 nbl_20 rfl (ld_a l0) ?_
      refine t_0 nbl_21 rfl (ld_a l0) ?_
      refine t_0 nbl_22 rfl (rcq_196_45 (S_J hS).1) ?_
      show t_X d 173 25 lv [pvR 225, pvR 196] g P
      refine t_0 nbl_25 rfl (ld_i l3) ?_
      have r5 : fA g 225 q = (qh : Int) := (congrFun (fA_M (S_J hS).2 qc_n.2.2.2.1) q).trans ((hX q (by omega)).2.2.1.trans q2)
      refine t_0 nbl_26 rfl (pq_iv rez_225 rfl ⟨by omega, by omega⟩ (rfl : fA g 225 = fA g 225)) ?_
      show t_X d 173 27 lv [oI (fA g 225 q), pvR 196] g P
      rw [r5]
      show t_X d 173 27 lv [oI ((qh : Int)), pvR 196] g P
      refine t_0 nbl_27 rfl (ld_a l0) ?_
      refine t_0 nbl_28 rfl (rcq_196_46 (S_J hS).1) ?_
      show t_X d 173 31 lv [pvR 226, oI ((qh : Int)), pvR 196] g P
      refine t_0 nbl_31 rfl (ld_i l3) ?_
      have r6 : fA g 226 q = (qe : Int) := (congrFun (fA_M (S_J hS).2 qc_n.2.2.2.2.1) q).trans ((hX q (by omega)).2.2.2.trans q3)
      refine t_0 nbl_32 rfl (pq_iv rez_226 rfl ⟨by omega, by omega⟩ (rfl : fA g 226 = fA g 226)) ?_
      show t_X d 173 33 lv [oI (fA g 226 q), oI ((qh : Int)), pvR 196] g P
      rw [r6]
      show t_X d 173 33 lv [oI ((qe : Int)), oI ((qh : Int)), pvR 196] g P
      refine t_3 nbl_33 rfl (ar := ([pvR 196, oI ((qh : Int)), oI ((qe : Int))], [])) (pcal_w (as := [oI ((qe : Int)), oI ((qh : Int))]) rfl rfl rfl reo_196) ⟨by omega, Nat.le_of_ble_eq_true rfl, Nat.le_of_ble_eq_true rfl, rfl⟩ ?_
      refine qrw_run (by omega) (fun j hj => hC j (by omega)) hf w2 (by omega) hS (fun g7 J7 => ?_) rfl rfl rfl
      have hS7 := qE_J J7
      have hb7 := aE_b hfR w2
      unfold i32R at hb7
      have ht7 := aE_t (f := f) w2
      show t_X d 173 36 lv [oI (aE o v f qh qe)] g7 P
      refine t_0 nbl_36 rfl rfl ?_
      refine tb_eq nbl_37 (by decide) ⟨by omega, by omega⟩ ⟨by omega, by omega⟩ (fun c8 => ?_) (fun c8 => ?_)
      · show t_X d 173 43 lv [] g7 P
        refine t_0 nbl_43 rfl (ld_a l0) ?_
        refine t_0 nbl_44 rfl (ld_a l0) ?_
        refine t_0 nbl_45 rfl (rcq_196_44 (S_J hS7).1) ?_
        show t_X d 173 48 lv [pvR 224, pvR 196] g7 P
        refine t_0 nbl_48 rfl (ld_i l3) ?_
        have r9 : fA g7 224 q = (qa : Int) := (congrFun (fA_M (S_J hS7).2 qc_n.2.2.1) q).trans ((hX q (by omega)).2.1.trans q1)
        refine t_0 nbl_49 rfl (pq_iv rez_224 rfl ⟨by omega, by omega⟩ (rfl : fA g7 224 = fA g7 224)) ?_
        show t_X d 173 50 lv [oI (fA g7 224 q), pvR 196] g7 P
        rw [r9]
        show t_X d 173 50 lv [oI ((qa : Int)), pvR 196] g7 P
        refine t_0 nbl_50 rfl (ld_a l0) ?_
        refine t_0 nbl_51 rfl (rcq_196_45 (S_J hS7).1) ?_
        show t_X d 173 54 lv [pvR 225, oI ((qa : Int)), pvR 196] g7 P
        refine t_0 nbl_54 rfl (ld_i l3) ?_
        have r10 : fA g7 225 q = (qh : Int) := (congrFun (fA_M (S_J hS7).2 qc_n.2.2.2.1) q).trans ((hX q (by omega)).2.2.1.trans q2)
        refine t_0 nbl_55 rfl (pq_iv rez_225 rfl ⟨by omega, by omega⟩ (rfl : fA g7 225 = fA g7 225)) ?_
        show t_X d 173 56 lv [oI (fA g7 225 q), oI ((qa : Int)), pvR 196] g7 P
        rw [r10]
        show t_X d 173 56 lv [oI ((qh : Int)), oI ((qa : Int)), pvR 196] g7 P
        refine t_3 nbl_56 rfl (ar := ([pvR 196, oI ((qa : Int)), oI ((qh : Int))], [])) (pcal_w (as := [oI ((qh : Int)), oI ((qa : Int))]) rfl rfl rfl reo_196) ⟨by omega, Nat.le_of_ble_eq_true rfl, Nat.le_of_ble_eq_true rfl, rfl⟩ ?_
        refine qrw_run (by omega) (fun j hj => hC j (by omega)) hf w1 (by omega) hS7 (fun g11 J11 => ?_) rfl rfl rfl
        have hS11 := qE_J J11
        have hb11 := aE_b hfR w1
        unfold i32R at hb11
        show t_X d 173 59 lv [oI (aE o v f qa qh)] g11 P
        refine t_2 nbl_59 rfl (w := (px_s1 lv 4 (oI (aE o v f qa qh)), [])) rfl ?_
        replace l0 : px_lg (px_s1 lv 4 (oI (aE o v f qa qh))) 0 = some (pvR 196) := s1_ne (by decide) (fun _ => rfl) l0
        replace l1 : px_lg (px_s1 lv 4 (oI (aE o v f qa qh))) 1 = some (oI (lt)) := s1_ne (by decide) (fun _ => rfl) l1
        replace l2 : px_lg (px_s1 lv 4 (oI (aE o v f qa qh))) 2 = some (oI (hi)) := s1_ne (by decide) (fun _ => rfl) l2
        replace l3 : px_lg (px_s1 lv 4 (oI (aE o v f qa qh))) 3 = some (oI ((q : Int))) := s1_ne (by decide) (fun _ => rfl) l3
        have l4 : px_lg (px_s1 lv 4 (oI (aE o v f qa qh))) 4 = some (oI (aE o v f qa qh)) := s1_eq
        generalize px_s1 lv 4 (oI (aE o v f qa qh)) = lv12 at l0 l1 l2 l3 l4 ⊢
        show t_X d 173 61 lv12 [] g11 P
        refine t_0 nbl_61 rfl (ld_i l4) ?_
        refine tz_ge nbl_63 (by decide) ⟨by omega, by omega⟩ (fun c13 => ?_) (fun c13 => ?_)
        · show t_X d 173 70 lv12 [] g11 P
          refine t_0 nbl_70 rfl (ld_i l4) ?_
          refine t_0 nbl_72 rfl (ld_i l2) ?_
          refine tb_le nbl_73 (by decide) ⟨by omega, by omega⟩ ⟨by omega, by omega⟩ (fun c14 => ?_) (fun c14 => ?_)
          · show t_X d 173 80 lv12 [] g11 P
            refine t_0 nbl_80 rfl (ld_i l4) ?_
            refine t_5 nbl_82 rfl rfl ?_
            have hp := hP _ (S_J hS11)
            rw [aW_y c3 (by rw [q2, q3]; show aE o v f qh qe ≠ 0; omega), q1, q2] at hp
            have ec : aCl hi (aE o v f qa qh) = aE o v f qa qh := by unfold aCl; rw [if_neg (by omega), if_neg (by omega)]
            replace hp : P (some (oI (aCl hi (aE o v f qa qh))), _) := hp
            rw [ec] at hp
            exact hp
          · show t_X d 173 76 lv12 [] g11 P
            refine t_0 nbl_76 rfl (ld_i l2) ?_
            refine t_1 nbl_77 rfl (pb_goto (pc := 77) (by decide)) ?_
            show t_X d 173 82 lv12 [oI (hi)] g11 P
            refine t_5 nbl_82 rfl rfl ?_
            have hp := hP _ (S_J hS11)
            rw [aW_y c3 (by rw [q2, q3]; show aE o v f qh qe ≠ 0; omega), q1, q2] at hp
            have ec : aCl hi (aE o v f qa qh) = hi := by unfold aCl; rw [if_neg (by omega), if_pos (by omega)]
            replace hp : P (some (oI (aCl hi (aE o v f qa qh))), _) := hp
            rw [ec] at hp
            exact hp
        · show t_X d 173 66 lv12 [] g11 P
          refine t_0 nbl_66 rfl rfl ?_
          refine t_1 nbl_67 rfl (pb_goto (pc := 67) (by decide)) ?_
          show t_X d 173 82 lv12 [oI 0] g11 P
          refine t_5 nbl_82 rfl rfl ?_
          have hp := hP _ (S_J hS11)
          rw [aW_y c3 (by rw [q2, q3]; show aE o v f qh qe ≠ 0; omega), q1, q2] at hp
          have ec : aCl hi (aE o v f qa qh) = 0 := by unfold aCl; rw [if_pos (by omega)]
          replace hp : P (some (oI (aCl hi (aE o v f qa qh))), _) := hp
          rw [ec] at hp
          exact hp
      · show t_X d 173 40 lv [] g7 P
        refine t_1 nbl_40 rfl (pb_goto (pc := 40) (by decide)) ?_
        show t_X d 173 83 lv [] g7 P
        refine t_2 nbl_83 rfl (w := (px_s1 lv 3 (oI ((q : Int) + 1)), [])) (pq_inc l3 (by decide)) ?_
        replace l0 : px_lg (px_s1 lv 3 (oI ((q : Int) + 1))) 0 = some (pvR 196) := s1_ne (by decide) (fun _ => rfl) l0
        replace l1 : px_lg (px_s1 lv 3 (oI ((q : Int) + 1))) 1 = some (oI (lt)) := s1_ne (by decide) (fun _ => rfl) l1
        replace l2 : px_lg (px_s1 lv 3 (oI ((q : Int) + 1))) 2 = some (oI (hi)) := s1_ne (by decide) (fun _ => rfl) l2
        have l3 : px_lg (px_s1 lv 3 (oI ((q : Int) + 1))) 3 = some (oI ((q : Int) + 1)) := s1_eq
        generalize px_s1 lv 3 (oI ((q : Int) + 1)) = lv15 at l0 l1 l2 l3 ⊢
        show t_X d 173 86 lv15 [] g7 P
        refine t_1 nbl_86 rfl (pb_goto (pc := 86) (by decide)) ?_
        show t_X d 173 2 lv15 [] g7 P
        refine ih (q + 1) _ _ (by omega) (by omega) hS7 (fun g9 J9 => ?_) l0 l1 l2 l3
        have hp := hP g9 J9
        rw [aW_n (fun z => ?_)] at hp
        · exact hp
        · have z2 := z.2
          rw [q2, q3] at z2
          exact z2 (by show aE o v f qh qe = 0; omega)
set_option maxHeartbeats 1000000 in
theorem nbl_run {d : Nat} (hd : 2 ≤ d) {g0 : pH} {o v f le st co en : tC} {c k1 : Int} (hc0 : cF g0 196 35 = c) (hC : ∀ j : Nat, (j : Int) < k1 → fA g0 222 j = 1048576 * o j + v j) (hX : ∀ j : Nat, (j : Int) < c → fA g0 223 j = le j ∧ fA g0 224 j = st j ∧ fA g0 225 j = co j ∧ fA g0 226 j = en j) (hf : fA g0 228 = f) (hfR : ∀ j, i32R (f j)) (hW : wCl k1 o v c st co en) (hk1 : k1 ≤ 240) (hc16 : c ≤ 16) {lt hi : Int} (hlt : 0 ≤ lt ∧ lt ≤ 200) (hhi : 0 ≤ hi ∧ hi ≤ 9999) {P : Option pv × pH → Prop} {s : tC} {g : pH} (hS : qE g0 g s) (hP : ∀ g' : pH, J_ qW g0 g' → P (some (oI (aV o v f le st co en c lt hi)), g')) {lv : List (Nat × pv)} (l0 : px_lg lv 0 = some (pvR 196)) (l1 : px_lg lv 1 = some (oI lt)) (l2 : px_lg lv 2 = some (oI hi)) : t_X d 173 0 lv [] g P := by
  have hc01 := hW.2.1
  refine t_0 nbl_0 rfl rfl ?_
  refine t_2 nbl_1 rfl (w := (px_s1 lv 3 (oI 0), [])) rfl ?_
  replace l0 : px_lg (px_s1 lv 3 (oI 0)) 0 = some (pvR 196) := s1_ne (by decide) (fun _ => rfl) l0
  replace l1 : px_lg (px_s1 lv 3 (oI 0)) 1 = some (oI (lt)) := s1_ne (by decide) (fun _ => rfl) l1
  replace l2 : px_lg (px_s1 lv 3 (oI 0)) 2 = some (oI (hi)) := s1_ne (by decide) (fun _ => rfl) l2
  have l3 : px_lg (px_s1 lv 3 (oI 0)) 3 = some (oI 0) := s1_eq
  generalize px_s1 lv 3 (oI 0) = lv1 at l0 l1 l2 l3 ⊢
  show t_X d 173 2 lv1 [] g P
  exact nblL hd hc0 hC hX hf hfR hW hk1 hc16 hlt hhi c.toNat 0 _ _ (by omega) (by omega) hS hP l0 l1 l2 l3
