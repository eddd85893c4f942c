/-! reference: the law's text: what waits, closing, factors (printed by wip/e2/v6.py) -/
theorem jcs_0 : xe_look (xc 176) 0 = some (.aload_n 0, 1, 0, 0, 0) := by decide +kernel
theorem jcs_1 : xe_look (xc 176) 1 = some (.invokevirtual 306, 3, 0, 272, 1144) := by decide +kernel
theorem jcs_4 : xe_look (xc 176) 4 = some (.iconst 4, 1, 0, 0, 0) := by decide +kernel
theorem jcs_5 : xe_look (xc 176) 5 = some (.if_icmp .lt 12, 3, 0, 0, 0) := by decide +kernel
theorem jcs_8 : xe_look (xc 176) 8 = some (.aload_n 0, 1, 0, 0, 0) := by decide +kernel
theorem jcs_9 : xe_look (xc 176) 9 = some (.invokevirtual 306, 3, 0, 272, 1144) := by decide +kernel
theorem jcs_12 : xe_look (xc 176) 12 = some (.bipush 6, 2, 0, 0, 0) := by decide +kernel
theorem jcs_14 : xe_look (xc 176) 14 = some (.if_icmp .le 23, 3, 0, 0, 0) := by decide +kernel
theorem jcs_17 : xe_look (xc 176) 17 = some (.iload_n 1, 1, 0, 0, 0) := by decide +kernel
theorem jcs_18 : xe_look (xc 176) 18 = some (.ifCond .eq 41, 3, 0, 0, 0) := by decide +kernel
theorem jcs_21 : xe_look (xc 176) 21 = some (.aload_n 0, 1, 0, 0, 0) := by decide +kernel
theorem jcs_22 : xe_look (xc 176) 22 = some (.invokevirtual 306, 3, 0, 272, 1144) := by decide +kernel
theorem jcs_25 : xe_look (xc 176) 25 = some (.iconst 2, 1, 0, 0, 0) := by decide +kernel
theorem jcs_26 : xe_look (xc 176) 26 = some (.if_icmp .eq 11, 3, 0, 0, 0) := by decide +kernel
theorem jcs_29 : xe_look (xc 176) 29 = some (.aload_n 0, 1, 0, 0, 0) := by decide +kernel
theorem jcs_30 : xe_look (xc 176) 30 = some (.invokevirtual 306, 3, 0, 272, 1144) := by decide +kernel
theorem jcs_33 : xe_look (xc 176) 33 = some (.iconst 3, 1, 0, 0, 0) := by decide +kernel
theorem jcs_34 : xe_look (xc 176) 34 = some (.if_icmp .ne 25, 3, 0, 0, 0) := by decide +kernel
theorem jcs_37 : xe_look (xc 176) 37 = some (.aload_n 0, 1, 0, 0, 0) := by decide +kernel
theorem jcs_38 : xe_look (xc 176) 38 = some (.aload_n 0, 1, 0, 0, 0) := by decide +kernel
theorem jcs_39 : xe_look (xc 176) 39 = some (.invokevirtual 306, 3, 0, 272, 1144) := by decide +kernel
theorem jcs_42 : xe_look (xc 176) 42 = some (.iconst 0, 1, 0, 0, 0) := by decide +kernel
theorem jcs_43 : xe_look (xc 176) 43 = some (.invokevirtual 309, 3, 0, 223, 1145) := by decide +kernel
theorem jcs_46 : xe_look (xc 176) 46 = some (.aload_n 0, 1, 0, 0, 0) := by decide +kernel
theorem jcs_47 : xe_look (xc 176) 47 = some (.aload_n 0, 1, 0, 0, 0) := by decide +kernel
theorem jcs_48 : xe_look (xc 176) 48 = some (.getfield 303, 3, 12, 33, 1146) := by decide +kernel
theorem jcs_51 : xe_look (xc 176) 51 = some (.iconst 1, 1, 0, 0, 0) := by decide +kernel
theorem jcs_52 : xe_look (xc 176) 52 = some (.isub, 1, 0, 0, 0) := by decide +kernel
theorem jcs_53 : xe_look (xc 176) 53 = some (.putfield 303, 3, 12, 33, 1146) := by decide +kernel
theorem jcs_56 : xe_look (xc 176) 56 = some (.goto (-56), 3, 0, 0, 0) := by decide +kernel
theorem jcs_59 : xe_look (xc 176) 59 = some (.return_, 1, 0, 0, 0) := by decide +kernel
theorem jfa_0 : xe_look (xc 236) 0 = some (.aload_n 0, 1, 0, 0, 0) := by decide +kernel
theorem jfa_1 : xe_look (xc 236) 1 = some (.invokevirtual 252, 3, 0, 198, 1137) := by decide +kernel
theorem jfa_4 : xe_look (xc 236) 4 = some (.bipush 91, 2, 0, 0, 0) := by decide +kernel
theorem jfa_6 : xe_look (xc 236) 6 = some (.if_icmp .ne 14, 3, 0, 0, 0) := by decide +kernel
theorem jfa_9 : xe_look (xc 236) 9 = some (.aload_n 0, 1, 0, 0, 0) := by decide +kernel
theorem jfa_10 : xe_look (xc 236) 10 = some (.bipush 14, 2, 0, 0, 0) := by decide +kernel
theorem jfa_12 : xe_look (xc 236) 12 = some (.invokevirtual 313, 3, 0, 229, 1258) := by decide +kernel
theorem jfa_15 : xe_look (xc 236) 15 = some (.ifCond .ne (-15), 3, 0, 0, 0) := by decide +kernel
theorem jfa_18 : xe_look (xc 236) 18 = some (.iconst 0, 1, 0, 0, 0) := by decide +kernel
theorem jfa_19 : xe_look (xc 236) 19 = some (.ireturn, 1, 0, 0, 0) := by decide +kernel
theorem jfa_20 : xe_look (xc 236) 20 = some (.aload_n 0, 1, 0, 0, 0) := by decide +kernel
theorem jfa_21 : xe_look (xc 236) 21 = some (.invokevirtual 248, 3, 0, 203, 1136) := by decide +kernel
theorem jfa_24 : xe_look (xc 236) 24 = some (.ifCond .eq 23, 3, 0, 0, 0) := by decide +kernel
theorem jfa_27 : xe_look (xc 236) 27 = some (.aload_n 0, 1, 0, 0, 0) := by decide +kernel
theorem jfa_28 : xe_look (xc 236) 28 = some (.invokevirtual 316, 3, 0, 238, 1262) := by decide +kernel
theorem jfa_31 : xe_look (xc 236) 31 = some (.ifCond .ne 5, 3, 0, 0, 0) := by decide +kernel
theorem jfa_34 : xe_look (xc 236) 34 = some (.iconst 0, 1, 0, 0, 0) := by decide +kernel
theorem jfa_35 : xe_look (xc 236) 35 = some (.ireturn, 1, 0, 0, 0) := by decide +kernel
theorem jfa_36 : xe_look (xc 236) 36 = some (.aload_n 0, 1, 0, 0, 0) := by decide +kernel
theorem jfa_37 : xe_look (xc 236) 37 = some (.iconst 0, 1, 0, 0, 0) := by decide +kernel
theorem jfa_38 : xe_look (xc 236) 38 = some (.aload_n 0, 1, 0, 0, 0) := by decide +kernel
theorem jfa_39 : xe_look (xc 236) 39 = some (.getfield 245, 3, 12, 21, 1263) := by decide +kernel
theorem jfa_42 : xe_look (xc 236) 42 = some (.invokevirtual 309, 3, 0, 223, 1145) := by decide +kernel
theorem jfa_45 : xe_look (xc 236) 45 = some (.iconst 1, 1, 0, 0, 0) := by decide +kernel
theorem jfa_46 : xe_look (xc 236) 46 = some (.ireturn, 1, 0, 0, 0) := by decide +kernel
theorem jfa_47 : xe_look (xc 236) 47 = some (.aload_n 0, 1, 0, 0, 0) := by decide +kernel
theorem jfa_48 : xe_look (xc 236) 48 = some (.invokevirtual 252, 3, 0, 198, 1137) := by decide +kernel
theorem jfa_51 : xe_look (xc 236) 51 = some (.invokestatic 319, 3, 0, 188, 1264) := by decide +kernel
theorem jfa_54 : xe_look (xc 236) 54 = some (.istore_n 1, 1, 0, 0, 0) := by decide +kernel
theorem jfa_55 : xe_look (xc 236) 55 = some (.iload_n 1, 1, 0, 0, 0) := by decide +kernel
theorem jfa_56 : xe_look (xc 236) 56 = some (.iconst (-1), 1, 0, 0, 0) := by decide +kernel
theorem jfa_57 : xe_look (xc 236) 57 = some (.if_icmp .ne 13, 3, 0, 0, 0) := by decide +kernel
theorem jfa_60 : xe_look (xc 236) 60 = some (.aload_n 0, 1, 0, 0, 0) := by decide +kernel
theorem jfa_61 : xe_look (xc 236) 61 = some (.iconst 1, 1, 0, 0, 0) := by decide +kernel
theorem jfa_62 : xe_look (xc 236) 62 = some (.aload_n 0, 1, 0, 0, 0) := by decide +kernel
theorem jfa_63 : xe_look (xc 236) 63 = some (.getfield 242, 3, 12, 18, 1135) := by decide +kernel
theorem jfa_66 : xe_look (xc 236) 66 = some (.invokevirtual 256, 3, 0, 274, 1138) := by decide +kernel
theorem jfa_69 : xe_look (xc 236) 69 = some (.ireturn, 1, 0, 0, 0) := by decide +kernel
theorem jfa_70 : xe_look (xc 236) 70 = some (.aload_n 0, 1, 0, 0, 0) := by decide +kernel
theorem jfa_71 : xe_look (xc 236) 71 = some (.iconst 1, 1, 0, 0, 0) := by decide +kernel
theorem jfa_72 : xe_look (xc 236) 72 = some (.iload_n 1, 1, 0, 0, 0) := by decide +kernel
theorem jfa_73 : xe_look (xc 236) 73 = some (.invokevirtual 309, 3, 0, 223, 1145) := by decide +kernel
theorem jfa_76 : xe_look (xc 236) 76 = some (.aload_n 0, 1, 0, 0, 0) := by decide +kernel
theorem jfa_77 : xe_look (xc 236) 77 = some (.aload_n 0, 1, 0, 0, 0) := by decide +kernel
theorem jfa_78 : xe_look (xc 236) 78 = some (.getfield 242, 3, 12, 18, 1135) := by decide +kernel
theorem jfa_81 : xe_look (xc 236) 81 = some (.iconst 1, 1, 0, 0, 0) := by decide +kernel
theorem jfa_82 : xe_look (xc 236) 82 = some (.iadd, 1, 0, 0, 0) := by decide +kernel
theorem jfa_83 : xe_look (xc 236) 83 = some (.putfield 242, 3, 12, 18, 1135) := by decide +kernel
theorem jfa_86 : xe_look (xc 236) 86 = some (.iconst 1, 1, 0, 0, 0) := by decide +kernel
theorem jfa_87 : xe_look (xc 236) 87 = some (.ireturn, 1, 0, 0, 0) := by decide +kernel
theorem jho_0 : xe_look (xc 197) 0 = some (.iload_n 1, 1, 0, 0, 0) := by decide +kernel
theorem jho_1 : xe_look (xc 197) 1 = some (.istore_n 2, 1, 0, 0, 0) := by decide +kernel
theorem jho_2 : xe_look (xc 197) 2 = some (.iload_n 2, 1, 0, 0, 0) := by decide +kernel
theorem jho_3 : xe_look (xc 197) 3 = some (.aload_n 0, 1, 0, 0, 0) := by decide +kernel
theorem jho_4 : xe_look (xc 197) 4 = some (.getfield 303, 3, 12, 33, 1146) := by decide +kernel
theorem jho_7 : xe_look (xc 197) 7 = some (.if_icmp .ge 26, 3, 0, 0, 0) := by decide +kernel
theorem jho_10 : xe_look (xc 197) 10 = some (.aload_n 0, 1, 0, 0, 0) := by decide +kernel
theorem jho_11 : xe_look (xc 197) 11 = some (.getfield 71, 3, 12, 37, 1189) := by decide +kernel
theorem jho_14 : xe_look (xc 197) 14 = some (.iload_n 2, 1, 0, 0, 0) := by decide +kernel
theorem jho_15 : xe_look (xc 197) 15 = some (.iaload, 1, 0, 0, 0) := by decide +kernel
theorem jho_16 : xe_look (xc 197) 16 = some (.ldc_w 299, 3, 0, 2148532224, 1151) := by decide +kernel
theorem jho_19 : xe_look (xc 197) 19 = some (.idiv, 1, 0, 0, 0) := by decide +kernel
theorem jho_20 : xe_look (xc 197) 20 = some (.bipush 14, 2, 0, 0, 0) := by decide +kernel
theorem jho_22 : xe_look (xc 197) 22 = some (.if_icmp .ne 5, 3, 0, 0, 0) := by decide +kernel
theorem jho_25 : xe_look (xc 197) 25 = some (.iconst 1, 1, 0, 0, 0) := by decide +kernel
theorem jho_26 : xe_look (xc 197) 26 = some (.ireturn, 1, 0, 0, 0) := by decide +kernel
theorem jho_27 : xe_look (xc 197) 27 = some (.iinc 2 1, 3, 0, 0, 0) := by decide +kernel
theorem jho_30 : xe_look (xc 197) 30 = some (.goto (-28), 3, 0, 0, 0) := by decide +kernel
theorem jho_33 : xe_look (xc 197) 33 = some (.iconst 0, 1, 0, 0, 0) := by decide +kernel
theorem jho_34 : xe_look (xc 197) 34 = some (.ireturn, 1, 0, 0, 0) := by decide +kernel
def jK : List (Int × Int) → tC → Prop
  | [], _ => True
  | q :: l, wa => (wa l.length = 1048576 * q.1 + q.2 ∧ 2 ≤ q.1 ∧ q.1 ≤ 14 ∧ 0 ≤ q.2 ∧ q.2 ≤ 240) ∧ jK l wa
def jC (k : Int) (o v sa : tC) : Prop := ∀ j : Nat, (j : Int) < k → sa j = 1048576 * o j + v j ∧ 0 ≤ o j ∧ o j ≤ 12 ∧ 0 ≤ v j ∧ v j ≤ 100000
/-- as it stands within the reading -/
def jSt (g0 g : pH) (p k : Int) (o v : tC) (δ : Int) (π : List (Int × Int)) : Prop := ∃ (ft u : Int) (sa wa : tC), jS g0 g p k (π.length : Int) δ ft u sa wa ∧ jC k o v sa ∧ jK π wa ∧ (π.length : Int) ≤ p
theorem jK_u : ∀ {l : List (Int × Int)} {wa : tC} {i : Nat} {x : Int}, l.length ≤ i → jK l wa → jK l (updI wa i x)
  | [], _, _, _, _, _ => trivial
  | q :: l, wa, i, x, hi, h => by
    have hi : l.length + 1 ≤ i := hi
    refine ⟨?_, jK_u (l := l) (by omega) h.2⟩
    unfold updI
    rw [if_neg (by omega)]
    exact h.1
theorem jK_p {l : List (Int × Int)} {wa : tC} {w a b : Int} (hw : w = l.length) (h : jK l wa) (ha : 2 ≤ a ∧ a ≤ 14) (hb : 0 ≤ b ∧ b ≤ 240) : jK ((a, b) :: l) (updI wa w.toNat (1048576 * a + b)) := by
  refine ⟨⟨?_, ha.1, ha.2, hb.1, hb.2⟩, jK_u (by omega) h⟩
  unfold updI
  rw [if_pos (by omega)]
theorem jK_a : ∀ {l : List (Int × Int)} {q : Int × Int} {r : List (Int × Int)} {wa : tC}, jK (l ++ q :: r) wa → wa r.length = 1048576 * q.1 + q.2 ∧ 2 ≤ q.1 ∧ q.1 ≤ 14 ∧ 0 ≤ q.2 ∧ q.2 ≤ 240
  | [], _, _, _, h => h.1
  | _ :: _, _, _, _, h => jK_a h.2
theorem jK_v : ∀ {l : List (Int × Int)} {wa : tC}, jK l wa → ∀ j : Nat, j < l.length → 0 ≤ wa j ∧ wa j ≤ 2147483647
  | [], _, _, j, hj => absurd hj (Nat.not_lt_zero _)
  | q :: l, wa, h, j, hj => by
    by_cases e : j = l.length
    · subst e
      have := h.1
      omega
    · exact jK_v h.2 j (by have : j < l.length + 1 := hj; omega)
theorem jK_s : ∀ {l r : List (Int × Int)} {wa : tC}, jK (l ++ r) wa → (∀ q ∈ l, q.1 ≤ 6) → ∀ j : Nat, r.length ≤ j → j < (l ++ r).length → wa j / 1048576 ≠ 14
  | [], r, _, _, _, j, h1, h2 => by
    have h2 : j < r.length := h2
    omega
  | q :: l, r, wa, h, hq, j, h1, h2 => by
    have h2 : j < (l ++ r).length + 1 := h2
    by_cases e : j = (l ++ r).length
    · subst e
      have h3 := hq q (List.mem_cons_self ..)
      have h4 : wa (l ++ r).length = 1048576 * q.1 + q.2 ∧ 2 ≤ q.1 ∧ q.1 ≤ 14 ∧ 0 ≤ q.2 ∧ q.2 ≤ 240 := h.1
      omega
    · exact jK_s h.2 (fun q' hq' => hq q' (List.mem_cons_of_mem _ hq')) j h1 (by omega)
theorem jC_e {k : Int} {o v sa : tC} {a b : Int} (hk : 0 ≤ k) (h : jC k o v sa) (ha : 0 ≤ a ∧ a ≤ 12) (hb : 0 ≤ b ∧ b ≤ 100000) : jC (k + 1) (updI o k.toNat a) (updI v k.toNat b) (updI sa k.toNat (1048576 * a + b)) := fun j hj => by
  unfold updI
  by_cases e : j = k.toNat
  · rw [if_pos e, if_pos e, if_pos e]
    exact ⟨rfl, ha.1, ha.2, hb.1, hb.2⟩
  · rw [if_neg e, if_neg e, if_neg e]
    exact h j (by omega)
theorem jC_g {k : Int} {o v sa : tC} {a b : Int} (hk : 0 ≤ k) (h : jC k o v sa) (ha : 0 ≤ a ∧ a ≤ 12) (hb : 0 ≤ b ∧ b ≤ 100000) (ho : o k.toNat = a) (hv : v k.toNat = b) : jC (k + 1) o v (updI sa k.toNat (1048576 * a + b)) := fun j hj => by
  unfold updI
  by_cases e : j = k.toNat
  · rw [if_pos e, e, ho, hv]
    exact ⟨rfl, ha.1, ha.2, hb.1, hb.2⟩
  · rw [if_neg e]
    exact h j (by omega)
theorem jC_c {k : Int} {o v o' v' sa : tC} (he : ∀ j : Nat, (j : Int) < k → o' j = o j ∧ v' j = v j) (h : jC k o v sa) : jC k o' v' sa := fun j hj => by
  rw [(he j hj).1, (he j hj).2]
  exact h j hj
theorem St_c {g0 g : pH} {p k δ : Int} {o v o' v' : tC} {π : List (Int × Int)} (he : ∀ j : Nat, (j : Int) < k → o' j = o j ∧ v' j = v j) (h : jSt g0 g p k o v δ π) : jSt g0 g p k o' v' δ π := by
  obtain ⟨ft, u, sa, wa, hS, hC, hT⟩ := h
  exact ⟨ft, u, sa, wa, hS, jC_c he hC, hT⟩
def jcs (d : Nat) (a : Int) (Q : Option pv × pH → Prop) (g : pH) : Prop := ∀ lv : List (Nat × pv), px_lg lv 0 = some (pvR 196) → px_lg lv 1 = some (oI a) → t_X d 176 0 lv [] g Q
def jF (d : Nat) (Q : Option pv × pH → Prop) (g : pH) : Prop := ∀ lv : List (Nat × pv), px_lg lv 0 = some (pvR 196) → t_X d 236 0 lv [] g Q
def jSu (d : Nat) (Q : Option pv × pH → Prop) (g : pH) : Prop := ∀ lv : List (Nat × pv), px_lg lv 0 = some (pvR 196) → t_X d 241 0 lv [] g Q
def jL (d β : Nat) (Q : Option pv × pH → Prop) (g : pH) : Prop := ∀ lv : List (Nat × pv), px_lg lv 0 = some (pvR 196) → px_lg lv 1 = some (oI (β : Int)) → t_X d 241 14 lv [] g Q
/-- closing stops -/
def tSp (a : Int) : List (Int × Int) → Prop
  | [] => True
  | q :: _ => 7 ≤ q.1 ∨ (a = 0 ∧ q.1 < 4)
/-- closing comes to -/
def jRe (g0 : pH) (a p k : Int) (o v : tC) (δ : Int) (π : List (Int × Int)) (g : pH) : Prop := (∃ (l : List (Int × Int)) (k' : Int), (∀ q ∈ l, q.1 ≤ 6) ∧ (0 ≤ k' ∧ k' ≤ k) ∧ jSt g0 g p k' o v δ (l ++ π)) ∧ ∀ d : Nat, 2 ≤ d → ∀ Q : Option pv × pH → Prop, (∀ g1, jSt g0 g1 p k o v δ π → Q (none, g1)) → jcs d a Q g
def jOK (g0 : pH) (Q : Option pv × pH → Prop) (f : Int) : Prop := ∀ g, jFt g0 g f → Q (some (oI 0), g)
def jQF (d β : Nat) (Q QF : Option pv × pH → Prop) : Prop := (∀ g, jL d β Q g → QF (some (oI 1), g)) ∧ ∀ g, Q (some (oI 0), g) → QF (some (oI 0), g)
theorem cs_A {d : Nat} (hd : 2 ≤ d) {g0 : pH} {B : tC} {n : Int} (hB : jB g0 B n) {p k δ : Int} {o v : tC} (hLP : lP n p k) (hδ : 0 ≤ δ ∧ δ ≤ 7) {t a : Int} (ht : 4 ≤ t ∧ t ≤ 6) {π : List (Int × Int)} {g : pH} (hg : jSt g0 g p k o v δ ((t, 0) :: π)) (hk : k < 240) (ho : o k.toNat = t) (hv : v k.toNat = 0) {Q : Option pv × pH → Prop} (hQ : ∀ g1, jSt g0 g1 p (k + 1) o v δ π → jcs d a Q g1) : jcs d a Q g := by
  intro lv l0 l1
  obtain ⟨ft, u, sa, wa, hS, hC, hT, hl⟩ := hg
  have hLP9 := hLP
  unfold lP at hLP9
  have hl1 : (((t, 0) :: π).length : Int) = (π.length : Int) + 1 := by rw [List.length_cons]; omega
  have eix : ((((t, 0) :: π).length : Int) - 1).toNat = π.length := by omega
  have hn0 := hB.2.2.1
  have hn1 := hB.2.2.2
  have hH : ∀ q, 0 ≤ q → -1 ≤ tH B n q ∧ tH B n q ≤ 255 := fun q hq => tH_b (jp_b hB.2.1) (by omega) hq
  refine t_0 jcs_0 rfl (ld_a l0) ?_
  refine t_3 jcs_1 rfl (ar := ([pvR 196], [])) (pcal_w (as := []) rfl rfl rfl jeo_196) ⟨by omega, Nat.le_of_ble_eq_true rfl, Nat.le_of_ble_eq_true rfl, rfl⟩ ?_
  refine jt1_run hB hS ⟨by omega, by omega⟩ (q := t) (y := 0) (by rw [eix, Int.add_zero]; have := hT.1.1; rw [Int.add_zero] at this; exact this) ⟨by omega, by omega, by omega, by omega⟩ ?_ rfl
  show t_X d 176 4 lv [oI (t)] g Q
  refine t_0 jcs_4 rfl rfl ?_
  refine tb_lt jcs_5 (by decide) ⟨by omega, by omega⟩ ⟨by omega, by omega⟩ (fun c1 => absurd c1 (by omega)) (fun c1 => ?_)
  show t_X d 176 8 lv [] g Q
  refine t_0 jcs_8 rfl (ld_a l0) ?_
  refine t_3 jcs_9 rfl (ar := ([pvR 196], [])) (pcal_w (as := []) rfl rfl rfl jeo_196) ⟨by omega, Nat.le_of_ble_eq_true rfl, Nat.le_of_ble_eq_true rfl, rfl⟩ ?_
  refine jt1_run hB hS ⟨by omega, by omega⟩ (q := t) (y := 0) (by rw [eix, Int.add_zero]; have := hT.1.1; rw [Int.add_zero] at this; exact this) ⟨by omega, by omega, by omega, by omega⟩ ?_ rfl
  show t_X d 176 12 lv [oI (t)] g Q
  refine t_0 jcs_12 rfl (pq_b (by decide)) ?_
  refine tb_le jcs_14 (by decide) ⟨by omega, by omega⟩ ⟨by omega, by omega⟩ (fun c2 => ?_) (fun c2 => absurd c2 (by omega))
  show t_X d 176 37 lv [] g Q
  refine t_0 jcs_37 rfl (ld_a l0) ?_
  refine t_0 jcs_38 rfl (ld_a l0) ?_
  refine t_3 jcs_39 rfl (ar := ([pvR 196], [pvR 196])) (pcal_w (as := []) rfl rfl rfl jeo_196) ⟨by omega, Nat.le_of_ble_eq_true rfl, Nat.le_of_ble_eq_true rfl, rfl⟩ ?_
  refine jt1_run hB hS ⟨by omega, by omega⟩ (q := t) (y := 0) (by rw [eix, Int.add_zero]; have := hT.1.1; rw [Int.add_zero] at this; exact this) ⟨by omega, by omega, by omega, by omega⟩ ?_ rfl
  show t_X d 176 42 lv [oI (t), pvR 196] g Q
  refine t_0 jcs_42 rfl rfl ?_
  refine t_3 jcs_43 rfl (ar := ([pvR 196, oI (t), oI 0], [])) (pcal_w (as := [oI 0, oI (t)]) rfl rfl rfl jeo_196) ⟨by omega, Nat.le_of_ble_eq_true rfl, Nat.le_of_ble_eq_true rfl, rfl⟩ ?_
  refine jno_run hB hS ⟨by omega, by omega⟩ ⟨by omega, by omega⟩ ⟨by omega, by omega⟩ (fun g3 hS3 => ?_) rfl rfl rfl
  replace hS3 : jS g0 g3 p (k + 1) (((t, 0) :: π).length : Int) δ ft u (updI sa k.toNat (1048576 * t + 0)) wa := hS3
  show t_X d 176 46 lv [] g3 Q
  refine t_0 jcs_46 rfl (ld_a l0) ?_
  refine t_0 jcs_47 rfl (ld_a l0) ?_
  refine t_0 jcs_48 rfl (pq_cv jeo_196 rfl (show cF g3 196 33 = (((t, 0) :: π).length : Int) from S_f hS3 2 (Nat.le_of_ble_eq_true rfl))) ?_
  show t_X d 176 51 lv [oI ((((t, 0) :: π).length : Int)), pvR 196] g3 Q
  refine t_0 jcs_51 rfl rfl ?_
  refine t_0 jcs_52 rfl pq_sub ?_
  refine ts_f (n := 2) rfl rfl (by decide) jcs_53 rfl jeo_196 hS3 wt_jW_196_33 jgy_196_33 (by decide) ⟨by omega, by omega⟩ (fun g4 hS4 => ?_)
  replace hS4 : jS g0 g4 p (k + 1) ((((t, 0) :: π).length : Int) - 1) δ ft u (updI sa k.toNat (1048576 * t + 0)) wa := hS4
  show t_X d 176 56 lv [] g4 Q
  refine t_1 jcs_56 rfl (pb_goto (pc := 56) (by decide)) ?_
  show t_X d 176 0 lv [] g4 Q
  refine hQ _ ⟨ft, u, _, wa, (show jS g0 g4 p (k + 1) (π.length : Int) δ ft u _ wa by rw [show (π.length : Int) = (((t, 0) :: π).length : Int) - 1 by omega]; exact hS4), jC_g (by omega) hC (by omega) (by omega) ho hv, hT.2, by omega⟩ _ l0 l1
theorem cs_B {d : Nat} (hd : 2 ≤ d) {g0 : pH} {B : tC} {n : Int} (hB : jB g0 B n) {p k δ : Int} {o v : tC} (hLP : lP n p k) (hδ : 0 ≤ δ ∧ δ ≤ 7) {t a : Int} (ht : t = 2 ∨ t = 3) {π : List (Int × Int)} {g : pH} (hg : jSt g0 g p k o v δ ((t, 0) :: π)) (hk : k < 240) (ho : o k.toNat = t) (hv : v k.toNat = 0) {Q : Option pv × pH → Prop} (hQ : ∀ g1, jSt g0 g1 p (k + 1) o v δ π → jcs d 1 Q g1) : jcs d 1 Q g := by
  intro lv l0 l1
  obtain ⟨ft, u, sa, wa, hS, hC, hT, hl⟩ := hg
  have hLP9 := hLP
  unfold lP at hLP9
  have hl1 : (((t, 0) :: π).length : Int) = (π.length : Int) + 1 := by rw [List.length_cons]; omega
  have eix : ((((t, 0) :: π).length : Int) - 1).toNat = π.length := by omega
  have hn0 := hB.2.2.1
  have hn1 := hB.2.2.2
  have hH : ∀ q, 0 ≤ q → -1 ≤ tH B n q ∧ tH B n q ≤ 255 := fun q hq => tH_b (jp_b hB.2.1) (by omega) hq
  refine t_0 jcs_0 rfl (ld_a l0) ?_
  refine t_3 jcs_1 rfl (ar := ([pvR 196], [])) (pcal_w (as := []) rfl rfl rfl jeo_196) ⟨by omega, Nat.le_of_ble_eq_true rfl, Nat.le_of_ble_eq_true rfl, rfl⟩ ?_
  refine jt1_run hB hS ⟨by omega, by omega⟩ (q := t) (y := 0) (by rw [eix, Int.add_zero]; have := hT.1.1; rw [Int.add_zero] at this; exact this) ⟨by omega, by omega, by omega, by omega⟩ ?_ rfl
  show t_X d 176 4 lv [oI (t)] g Q
  refine t_0 jcs_4 rfl rfl ?_
  refine tb_lt jcs_5 (by decide) ⟨by omega, by omega⟩ ⟨by omega, by omega⟩ (fun c1 => ?_) (fun c1 => absurd c1 (by omega))
  show t_X d 176 17 lv [] g Q
  refine t_0 jcs_17 rfl (ld_i l1) ?_
  refine tz_eq jcs_18 (by decide) ⟨by omega, by omega⟩ (fun c2 => absurd c2 (by omega)) (fun c2 => ?_)
  show t_X d 176 21 lv [] g Q
  refine t_0 jcs_21 rfl (ld_a l0) ?_
  refine t_3 jcs_22 rfl (ar := ([pvR 196], [])) (pcal_w (as := []) rfl rfl rfl jeo_196) ⟨by omega, Nat.le_of_ble_eq_true rfl, Nat.le_of_ble_eq_true rfl, rfl⟩ ?_
  refine jt1_run hB hS ⟨by omega, by omega⟩ (q := t) (y := 0) (by rw [eix, Int.add_zero]; have := hT.1.1; rw [Int.add_zero] at this; exact this) ⟨by omega, by omega, by omega, by omega⟩ ?_ rfl
  show t_X d 176 25 lv [oI (t)] g Q
  refine t_0 jcs_25 rfl rfl ?_
  refine tb_eq jcs_26 (by decide) ⟨by omega, by omega⟩ ⟨by omega, by omega⟩ (fun c3 => ?_) (fun c3 => ?_)
  · show t_X d 176 37 lv [] g Q
    refine t_0 jcs_37 rfl (ld_a l0) ?_
    refine t_0 jcs_38 rfl (ld_a l0) ?_
    refine t_3 jcs_39 rfl (ar := ([pvR 196], [pvR 196])) (pcal_w (as := []) rfl rfl rfl jeo_196) ⟨by omega, Nat.le_of_ble_eq_true rfl, Nat.le_of_ble_eq_true rfl, rfl⟩ ?_
    refine jt1_run hB hS ⟨by omega, by omega⟩ (q := t) (y := 0) (by rw [eix, Int.add_zero]; have := hT.1.1; rw [Int.add_zero] at this; exact this) ⟨by omega, by omega, by omega, by omega⟩ ?_ rfl
    show t_X d 176 42 lv [oI (t), pvR 196] g Q
    refine t_0 jcs_42 rfl rfl ?_
    refine t_3 jcs_43 rfl (ar := ([pvR 196, oI (t), oI 0], [])) (pcal_w (as := [oI 0, oI (t)]) rfl rfl rfl jeo_196) ⟨by omega, Nat.le_of_ble_eq_true rfl, Nat.le_of_ble_eq_true rfl, rfl⟩ ?_
    refine jno_run hB hS ⟨by omega, by omega⟩ ⟨by omega, by omega⟩ ⟨by omega, by omega⟩ (fun g4 hS4 => ?_) rfl rfl rfl
    replace hS4 : jS g0 g4 p (k + 1) (((t, 0) :: π).length : Int) δ ft u (updI sa k.toNat (1048576 * t + 0)) wa := hS4
    show t_X d 176 46 lv [] g4 Q
    refine t_0 jcs_46 rfl (ld_a l0) ?_
    refine t_0 jcs_47 rfl (ld_a l0) ?_
    refine t_0 jcs_48 rfl (pq_cv jeo_196 rfl (show cF g4 196 33 = (((t, 0) :: π).length : Int) from S_f hS4 2 (Nat.le_of_ble_eq_true rfl))) ?_
    show t_X d 176 51 lv [oI ((((t, 0) :: π).length : Int)), pvR 196] g4 Q
    refine t_0 jcs_51 rfl rfl ?_
    refine t_0 jcs_52 rfl pq_sub ?_
    refine ts_f (n := 2) rfl rfl (by decide) jcs_53 rfl jeo_196 hS4 wt_jW_196_33 jgy_196_33 (by decide) ⟨by omega, by omega⟩ (fun g5 hS5 => ?_)
    replace hS5 : jS g0 g5 p (k + 1) ((((t, 0) :: π).length : Int) - 1) δ ft u (updI sa k.toNat (1048576 * t + 0)) wa := hS5
    show t_X d 176 56 lv [] g5 Q
    refine t_1 jcs_56 rfl (pb_goto (pc := 56) (by decide)) ?_
    show t_X d 176 0 lv [] g5 Q
    refine hQ _ ⟨ft, u, _, wa, (show jS g0 g5 p (k + 1) (π.length : Int) δ ft u _ wa by rw [show (π.length : Int) = (((t, 0) :: π).length : Int) - 1 by omega]; exact hS5), jC_g (by omega) hC (by omega) (by omega) ho hv, hT.2, by omega⟩ _ l0 l1
  · show t_X d 176 29 lv [] g Q
    refine t_0 jcs_29 rfl (ld_a l0) ?_
    refine t_3 jcs_30 rfl (ar := ([pvR 196], [])) (pcal_w (as := []) rfl rfl rfl jeo_196) ⟨by omega, Nat.le_of_ble_eq_true rfl, Nat.le_of_ble_eq_true rfl, rfl⟩ ?_
    refine jt1_run hB hS ⟨by omega, by omega⟩ (q := t) (y := 0) (by rw [eix, Int.add_zero]; have := hT.1.1; rw [Int.add_zero] at this; exact this) ⟨by omega, by omega, by omega, by omega⟩ ?_ rfl
    show t_X d 176 33 lv [oI (t)] g Q
    refine t_0 jcs_33 rfl rfl ?_
    refine tb_ne jcs_34 (by decide) ⟨by omega, by omega⟩ ⟨by omega, by omega⟩ (fun c6 => absurd c6 (by omega)) (fun c6 => ?_)
    show t_X d 176 37 lv [] g Q
    refine t_0 jcs_37 rfl (ld_a l0) ?_
    refine t_0 jcs_38 rfl (ld_a l0) ?_
    refine t_3 jcs_39 rfl (ar := ([pvR 196], [pvR 196])) (pcal_w (as := []) rfl rfl rfl jeo_196) ⟨by omega, Nat.le_of_ble_eq_true rfl, Nat.le_of_ble_eq_true rfl, rfl⟩ ?_
    refine jt1_run hB hS ⟨by omega, by omega⟩ (q := t) (y := 0) (by rw [eix, Int.add_zero]; have := hT.1.1; rw [Int.add_zero] at this; exact this) ⟨by omega, by omega, by omega, by omega⟩ ?_ rfl
    show t_X d 176 42 lv [oI (t), pvR 196] g Q
    refine t_0 jcs_42 rfl rfl ?_
    refine t_3 jcs_43 rfl (ar := ([pvR 196, oI (t), oI 0], [])) (pcal_w (as := [oI 0, oI (t)]) rfl rfl rfl jeo_196) ⟨by omega, Nat.le_of_ble_eq_true rfl, Nat.le_of_ble_eq_true rfl, rfl⟩ ?_
    refine jno_run hB hS ⟨by omega, by omega⟩ ⟨by omega, by omega⟩ ⟨by omega, by omega⟩ (fun g7 hS7 => ?_) rfl rfl rfl
    replace hS7 : jS g0 g7 p (k + 1) (((t, 0) :: π).length : Int) δ ft u (updI sa k.toNat (1048576 * t + 0)) wa := hS7
    show t_X d 176 46 lv [] g7 Q
    refine t_0 jcs_46 rfl (ld_a l0) ?_
    refine t_0 jcs_47 rfl (ld_a l0) ?_
    refine t_0 jcs_48 rfl (pq_cv jeo_196 rfl (show cF g7 196 33 = (((t, 0) :: π).length : Int) from S_f hS7 2 (Nat.le_of_ble_eq_true rfl))) ?_
    show t_X d 176 51 lv [oI ((((t, 0) :: π).length : Int)), pvR 196] g7 Q
    refine t_0 jcs_51 rfl rfl ?_
    refine t_0 jcs_52 rfl pq_sub ?_
    refine ts_f (n := 2) rfl rfl (by decide) jcs_53 rfl jeo_196 hS7 wt_jW_196_33 jgy_196_33 (by decide) ⟨by omega, by omega⟩ (fun g8 hS8 => ?_)
    replace hS8 : jS g0 g8 p (k + 1) ((((t, 0) :: π).length : Int) - 1) δ ft u (updI sa k.toNat (1048576 * t + 0)) wa := hS8
    show t_X d 176 56 lv [] g8 Q
    refine t_1 jcs_56 rfl (pb_goto (pc := 56) (by decide)) ?_
    show t_X d 176 0 lv [] g8 Q
    refine hQ _ ⟨ft, u, _, wa, (show jS g0 g8 p (k + 1) (π.length : Int) δ ft u _ wa by rw [show (π.length : Int) = (((t, 0) :: π).length : Int) - 1 by omega]; exact hS8), jC_g (by omega) hC (by omega) (by omega) ho hv, hT.2, by omega⟩ _ l0 l1
theorem cs_Z0 {d : Nat} (hd : 2 ≤ d) {g0 : pH} {B : tC} {n : Int} (hB : jB g0 B n) {p k δ : Int} {o v : tC} (hLP : lP n p k) (hδ : 0 ≤ δ ∧ δ ≤ 7) {g : pH} (hg : jSt g0 g p k o v δ []) {Q : Option pv × pH → Prop} (hQ : Q (none, g)) : jcs d 0 Q g := by
  intro lv l0 l1
  obtain ⟨ft, u, sa, wa, hS, hC, hT, hl⟩ := hg
  have hn0 := hB.2.2.1
  have hn1 := hB.2.2.2
  have hH : ∀ q, 0 ≤ q → -1 ≤ tH B n q ∧ tH B n q ≤ 255 := fun q hq => tH_b (jp_b hB.2.1) (by omega) hq
  refine t_0 jcs_0 rfl (ld_a l0) ?_
  refine t_3 jcs_1 rfl (ar := ([pvR 196], [])) (pcal_w (as := []) rfl rfl rfl jeo_196) ⟨by omega, Nat.le_of_ble_eq_true rfl, Nat.le_of_ble_eq_true rfl, rfl⟩ ?_
  refine jt0_run hB (show jS g0 g _ _ 0 _ _ _ _ _ from hS) ?_ rfl
  show t_X d 176 4 lv [oI (-1)] g Q
  refine t_0 jcs_4 rfl rfl ?_
  refine tb_lt jcs_5 (by decide) ⟨by omega, by omega⟩ ⟨by omega, by omega⟩ (fun c1 => ?_) (fun c1 => absurd c1 (by omega))
  show t_X d 176 17 lv [] g Q
  refine t_0 jcs_17 rfl (ld_i l1) ?_
  refine tz_eq jcs_18 (by decide) ⟨by omega, by omega⟩ (fun c2 => ?_) (fun c2 => absurd c2 (by omega))
  show t_X d 176 59 lv [] g Q
  refine t_5 jcs_59 rfl rfl ?_
  exact hQ
theorem cs_N0 {d : Nat} (hd : 2 ≤ d) {g0 : pH} {B : tC} {n : Int} (hB : jB g0 B n) {p k δ : Int} {o v : tC} (hLP : lP n p k) (hδ : 0 ≤ δ ∧ δ ≤ 7) {q : Int × Int} (hq : 7 ≤ q.1) {π : List (Int × Int)} {g : pH} (hg : jSt g0 g p k o v δ (q :: π)) {Q : Option pv × pH → Prop} (hQ : Q (none, g)) : jcs d 0 Q g := by
  intro lv l0 l1
  obtain ⟨ft, u, sa, wa, hS, hC, hT, hl⟩ := hg
  have hLP9 := hLP
  unfold lP at hLP9
  have hl1 : ((q :: π).length : Int) = (π.length : Int) + 1 := by rw [List.length_cons]; omega
  have eix : (((q :: π).length : Int) - 1).toNat = π.length := by omega
  have hq9 := hT.1
  have hn0 := hB.2.2.1
  have hn1 := hB.2.2.2
  have hH : ∀ q, 0 ≤ q → -1 ≤ tH B n q ∧ tH B n q ≤ 255 := fun q hq => tH_b (jp_b hB.2.1) (by omega) hq
  refine t_0 jcs_0 rfl (ld_a l0) ?_
  refine t_3 jcs_1 rfl (ar := ([pvR 196], [])) (pcal_w (as := []) rfl rfl rfl jeo_196) ⟨by omega, Nat.le_of_ble_eq_true rfl, Nat.le_of_ble_eq_true rfl, rfl⟩ ?_
  refine jt1_run hB hS ⟨by omega, by omega⟩ (q := q.1) (y := q.2) (by rw [eix]; exact hT.1.1) ⟨by omega, by omega, by omega, by omega⟩ ?_ rfl
  show t_X d 176 4 lv [oI (q.1)] g Q
  refine t_0 jcs_4 rfl rfl ?_
  refine tb_lt jcs_5 (by decide) ⟨by omega, by omega⟩ ⟨by omega, by omega⟩ (fun c1 => absurd c1 (by omega)) (fun c1 => ?_)
  show t_X d 176 8 lv [] g Q
  refine t_0 jcs_8 rfl (ld_a l0) ?_
  refine t_3 jcs_9 rfl (ar := ([pvR 196], [])) (pcal_w (as := []) rfl rfl rfl jeo_196) ⟨by omega, Nat.le_of_ble_eq_true rfl, Nat.le_of_ble_eq_true rfl, rfl⟩ ?_
  refine jt1_run hB hS ⟨by omega, by omega⟩ (q := q.1) (y := q.2) (by rw [eix]; exact hT.1.1) ⟨by omega, by omega, by omega, by omega⟩ ?_ rfl
  show t_X d 176 12 lv [oI (q.1)] g Q
  refine t_0 jcs_12 rfl (pq_b (by decide)) ?_
  refine tb_le jcs_14 (by decide) ⟨by omega, by omega⟩ ⟨by omega, by omega⟩ (fun c2 => absurd c2 (by omega)) (fun c2 => ?_)
  show t_X d 176 17 lv [] g Q
  refine t_0 jcs_17 rfl (ld_i l1) ?_
  refine tz_eq jcs_18 (by decide) ⟨by omega, by omega⟩ (fun c3 => ?_) (fun c3 => absurd c3 (by omega))
  show t_X d 176 59 lv [] g Q
  refine t_5 jcs_59 rfl rfl ?_
  exact hQ
theorem cs_Z1 {d : Nat} (hd : 2 ≤ d) {g0 : pH} {B : tC} {n : Int} (hB : jB g0 B n) {p k δ : Int} {o v : tC} (hLP : lP n p k) (hδ : 0 ≤ δ ∧ δ ≤ 7) {g : pH} (hg : jSt g0 g p k o v δ []) {Q : Option pv × pH → Prop} (hQ : Q (none, g)) : jcs d 1 Q g := by
  intro lv l0 l1
  obtain ⟨ft, u, sa, wa, hS, hC, hT, hl⟩ := hg
  have hn0 := hB.2.2.1
  have hn1 := hB.2.2.2
  have hH : ∀ q, 0 ≤ q → -1 ≤ tH B n q ∧ tH B n q ≤ 255 := fun q hq => tH_b (jp_b hB.2.1) (by omega) hq
  refine t_0 jcs_0 rfl (ld_a l0) ?_
  refine t_3 jcs_1 rfl (ar := ([pvR 196], [])) (pcal_w (as := []) rfl rfl rfl jeo_196) ⟨by omega, Nat.le_of_ble_eq_true rfl, Nat.le_of_ble_eq_true rfl, rfl⟩ ?_
  refine jt0_run hB (show jS g0 g _ _ 0 _ _ _ _ _ from hS) ?_ rfl
  show t_X d 176 4 lv [oI (-1)] g Q
  refine t_0 jcs_4 rfl rfl ?_
  refine tb_lt jcs_5 (by decide) ⟨by omega, by omega⟩ ⟨by omega, by omega⟩ (fun c1 => ?_) (fun c1 => absurd c1 (by omega))
  show t_X d 176 17 lv [] g Q
  refine t_0 jcs_17 rfl (ld_i l1) ?_
  refine tz_eq jcs_18 (by decide) ⟨by omega, by omega⟩ (fun c2 => absurd c2 (by omega)) (fun c2 => ?_)
  show t_X d 176 21 lv [] g Q
  refine t_0 jcs_21 rfl (ld_a l0) ?_
  refine t_3 jcs_22 rfl (ar := ([pvR 196], [])) (pcal_w (as := []) rfl rfl rfl jeo_196) ⟨by omega, Nat.le_of_ble_eq_true rfl, Nat.le_of_ble_eq_true rfl, rfl⟩ ?_
  refine jt0_run hB (show jS g0 g _ _ 0 _ _ _ _ _ from hS) ?_ rfl
  show t_X d 176 25 lv [oI (-1)] g Q
  refine t_0 jcs_25 rfl rfl ?_
  refine tb_eq jcs_26 (by decide) ⟨by omega, by omega⟩ ⟨by omega, by omega⟩ (fun c3 => absurd c3 (by omega)) (fun c3 => ?_)
  show t_X d 176 29 lv [] g Q
  refine t_0 jcs_29 rfl (ld_a l0) ?_
  refine t_3 jcs_30 rfl (ar := ([pvR 196], [])) (pcal_w (as := []) rfl rfl rfl jeo_196) ⟨by omega, Nat.le_of_ble_eq_true rfl, Nat.le_of_ble_eq_true rfl, rfl⟩ ?_
  refine jt0_run hB (show jS g0 g _ _ 0 _ _ _ _ _ from hS) ?_ rfl
  show t_X d 176 33 lv [oI (-1)] g Q
  refine t_0 jcs_33 rfl rfl ?_
  refine tb_ne jcs_34 (by decide) ⟨by omega, by omega⟩ ⟨by omega, by omega⟩ (fun c4 => ?_) (fun c4 => absurd c4 (by omega))
  show t_X d 176 59 lv [] g Q
  refine t_5 jcs_59 rfl rfl ?_
  exact hQ
theorem cs_N1 {d : Nat} (hd : 2 ≤ d) {g0 : pH} {B : tC} {n : Int} (hB : jB g0 B n) {p k δ : Int} {o v : tC} (hLP : lP n p k) (hδ : 0 ≤ δ ∧ δ ≤ 7) {q : Int × Int} (hq : 7 ≤ q.1) {π : List (Int × Int)} {g : pH} (hg : jSt g0 g p k o v δ (q :: π)) {Q : Option pv × pH → Prop} (hQ : Q (none, g)) : jcs d 1 Q g := by
  intro lv l0 l1
  obtain ⟨ft, u, sa, wa, hS, hC, hT, hl⟩ := hg
  have hLP9 := hLP
  unfold lP at hLP9
  have hl1 : ((q :: π).length : Int) = (π.length : Int) + 1 := by rw [List.length_cons]; omega
  have eix : (((q :: π).length : Int) - 1).toNat = π.length := by omega
  have hq9 := hT.1
  have hn0 := hB.2.2.1
  have hn1 := hB.2.2.2
  have hH : ∀ q, 0 ≤ q → -1 ≤ tH B n q ∧ tH B n q ≤ 255 := fun q hq => tH_b (jp_b hB.2.1) (by omega) hq
  refine t_0 jcs_0 rfl (ld_a l0) ?_
  refine t_3 jcs_1 rfl (ar := ([pvR 196], [])) (pcal_w (as := []) rfl rfl rfl jeo_196) ⟨by omega, Nat.le_of_ble_eq_true rfl, Nat.le_of_ble_eq_true rfl, rfl⟩ ?_
  refine jt1_run hB hS ⟨by omega, by omega⟩ (q := q.1) (y := q.2) (by rw [eix]; exact hT.1.1) ⟨by omega, by omega, by omega, by omega⟩ ?_ rfl
  show t_X d 176 4 lv [oI (q.1)] g Q
  refine t_0 jcs_4 rfl rfl ?_
  refine tb_lt jcs_5 (by decide) ⟨by omega, by omega⟩ ⟨by omega, by omega⟩ (fun c1 => absurd c1 (by omega)) (fun c1 => ?_)
  show t_X d 176 8 lv [] g Q
  refine t_0 jcs_8 rfl (ld_a l0) ?_
  refine t_3 jcs_9 rfl (ar := ([pvR 196], [])) (pcal_w (as := []) rfl rfl rfl jeo_196) ⟨by omega, Nat.le_of_ble_eq_true rfl, Nat.le_of_ble_eq_true rfl, rfl⟩ ?_
  refine jt1_run hB hS ⟨by omega, by omega⟩ (q := q.1) (y := q.2) (by rw [eix]; exact hT.1.1) ⟨by omega, by omega, by omega, by omega⟩ ?_ rfl
  show t_X d 176 12 lv [oI (q.1)] g Q
  refine t_0 jcs_12 rfl (pq_b (by decide)) ?_
  refine tb_le jcs_14 (by decide) ⟨by omega, by omega⟩ ⟨by omega, by omega⟩ (fun c2 => absurd c2 (by omega)) (fun c2 => ?_)
  show t_X d 176 17 lv [] g Q
  refine t_0 jcs_17 rfl (ld_i l1) ?_
  refine tz_eq jcs_18 (by decide) ⟨by omega, by omega⟩ (fun c3 => absurd c3 (by omega)) (fun c3 => ?_)
  show t_X d 176 21 lv [] g Q
  refine t_0 jcs_21 rfl (ld_a l0) ?_
  refine t_3 jcs_22 rfl (ar := ([pvR 196], [])) (pcal_w (as := []) rfl rfl rfl jeo_196) ⟨by omega, Nat.le_of_ble_eq_true rfl, Nat.le_of_ble_eq_true rfl, rfl⟩ ?_
  refine jt1_run hB hS ⟨by omega, by omega⟩ (q := q.1) (y := q.2) (by rw [eix]; exact hT.1.1) ⟨by omega, by omega, by omega, by omega⟩ ?_ rfl
  show t_X d 176 25 lv [oI (q.1)] g Q
  refine t_0 jcs_25 rfl rfl ?_
  refine tb_eq jcs_26 (by decide) ⟨by omega, by omega⟩ ⟨by omega, by omega⟩ (fun c4 => absurd c4 (by omega)) (fun c4 => ?_)
  show t_X d 176 29 lv [] g Q
  refine t_0 jcs_29 rfl (ld_a l0) ?_
  refine t_3 jcs_30 rfl (ar := ([pvR 196], [])) (pcal_w (as := []) rfl rfl rfl jeo_196) ⟨by omega, Nat.le_of_ble_eq_true rfl, Nat.le_of_ble_eq_true rfl, rfl⟩ ?_
  refine jt1_run hB hS ⟨by omega, by omega⟩ (q := q.1) (y := q.2) (by rw [eix]; exact hT.1.1) ⟨by omega, by omega, by omega, by omega⟩ ?_ rfl
  show t_X d 176 33 lv [oI (q.1)] g Q
  refine t_0 jcs_33 rfl rfl ?_
  refine tb_ne jcs_34 (by decide) ⟨by omega, by omega⟩ ⟨by omega, by omega⟩ (fun c5 => ?_) (fun c5 => absurd c5 (by omega))
  show t_X d 176 59 lv [] g Q
  refine t_5 jcs_59 rfl rfl ?_
  exact hQ
theorem cs_M {d : Nat} (hd : 2 ≤ d) {g0 : pH} {B : tC} {n : Int} (hB : jB g0 B n) {p k δ : Int} {o v : tC} (hLP : lP n p k) (hδ : 0 ≤ δ ∧ δ ≤ 7) {q : Int × Int} (hq : q.1 < 4) {π : List (Int × Int)} {g : pH} (hg : jSt g0 g p k o v δ (q :: π)) {Q : Option pv × pH → Prop} (hQ : Q (none, g)) : jcs d 0 Q g := by
  intro lv l0 l1
  obtain ⟨ft, u, sa, wa, hS, hC, hT, hl⟩ := hg
  have hLP9 := hLP
  unfold lP at hLP9
  have hl1 : ((q :: π).length : Int) = (π.length : Int) + 1 := by rw [List.length_cons]; omega
  have eix : (((q :: π).length : Int) - 1).toNat = π.length := by omega
  have hq9 := hT.1
  have hn0 := hB.2.2.1
  have hn1 := hB.2.2.2
  have hH : ∀ q, 0 ≤ q → -1 ≤ tH B n q ∧ tH B n q ≤ 255 := fun q hq => tH_b (jp_b hB.2.1) (by omega) hq
  refine t_0 jcs_0 rfl (ld_a l0) ?_
  refine t_3 jcs_1 rfl (ar := ([pvR 196], [])) (pcal_w (as := []) rfl rfl rfl jeo_196) ⟨by omega, Nat.le_of_ble_eq_true rfl, Nat.le_of_ble_eq_true rfl, rfl⟩ ?_
  refine jt1_run hB hS ⟨by omega, by omega⟩ (q := q.1) (y := q.2) (by rw [eix]; exact hT.1.1) ⟨by omega, by omega, by omega, by omega⟩ ?_ rfl
  show t_X d 176 4 lv [oI (q.1)] g Q
  refine t_0 jcs_4 rfl rfl ?_
  refine tb_lt jcs_5 (by decide) ⟨by omega, by omega⟩ ⟨by omega, by omega⟩ (fun c1 => ?_) (fun c1 => absurd c1 (by omega))
  show t_X d 176 17 lv [] g Q
  refine t_0 jcs_17 rfl (ld_i l1) ?_
  refine tz_eq jcs_18 (by decide) ⟨by omega, by omega⟩ (fun c2 => ?_) (fun c2 => absurd c2 (by omega))
  show t_X d 176 59 lv [] g Q
  refine t_5 jcs_59 rfl rfl ?_
  exact hQ
theorem cs_st {d : Nat} (hd : 2 ≤ d) {g0 : pH} {B : tC} {n : Int} (hB : jB g0 B n) {p k δ : Int} {o v : tC} (hLP : lP n p k) (hδ : 0 ≤ δ ∧ δ ≤ 7) {a : Int} (ha : a = 0 ∨ a = 1) {π : List (Int × Int)} (hs : tSp a π) {g : pH} (hg : jSt g0 g p k o v δ π) {Q : Option pv × pH → Prop} (hQ : Q (none, g)) : jcs d a Q g := by
  rcases π with _ | ⟨q, π⟩
  · rcases ha with rfl | rfl
    · exact cs_Z0 hd hB hLP hδ hg hQ
    · exact cs_Z1 hd hB hLP hδ hg hQ
  · rcases hs with hs | ⟨h1, hs⟩
    · rcases ha with rfl | rfl
      · exact cs_N0 hd hB hLP hδ hs hg hQ
      · exact cs_N1 hd hB hLP hδ hs hg hQ
    · subst h1
      exact cs_M hd hB hLP hδ hs hg hQ
theorem re_0 {g0 : pH} {B : tC} {n : Int} (hB : jB g0 B n) {p k δ : Int} {o v : tC} (hLP : lP n p k) (hδ : 0 ≤ δ ∧ δ ≤ 7) {a : Int} (ha : a = 0 ∨ a = 1) {π : List (Int × Int)} (hs : tSp a π) {g : pH} (hg : jSt g0 g p k o v δ π) : jRe g0 a p k o v δ π g := ⟨⟨[], k, fun q hq => absurd hq List.not_mem_nil, ⟨hLP.2.2.1, Int.le_refl _⟩, hg⟩, fun d hd Q hQ => cs_st hd hB hLP hδ ha hs hg (hQ g hg)⟩
theorem re_1 {g0 : pH} {B : tC} {n : Int} (hB : jB g0 B n) {p k δ : Int} {o v : tC} (hLP : lP n p k) (hδ : 0 ≤ δ ∧ δ ≤ 7) {a t : Int} (ha : a = 0 ∨ a = 1) (ht : (4 ≤ t ∧ t ≤ 6) ∨ (a = 1 ∧ (t = 2 ∨ t = 3))) {π : List (Int × Int)} (hs : tSp a π) (hk : 1 ≤ k) (ho : o (k - 1).toNat = t) (hv : v (k - 1).toNat = 0) {g : pH} (hg : jSt g0 g p (k - 1) o v δ ((t, 0) :: π)) : jRe g0 a p k o v δ π g := by
  have h9 := hB.2.2.2
  have hLP2 : lP n p (k - 1) := by unfold lP at hLP ⊢; omega
  have h8 : k ≤ 240 := by unfold lP at hLP; omega
  refine ⟨⟨[(t, 0)], k - 1, fun q hq => ?_, ⟨by omega, by omega⟩, hg⟩, fun d hd Q hQ => ?_⟩
  · rw [List.mem_singleton.mp hq]
    show t ≤ 6
    omega
  · have fin : ∀ g1, jSt g0 g1 p (k - 1 + 1) o v δ π → jcs d a Q g1 := fun g1 h1 => by
      rw [show k - 1 + 1 = k by omega] at h1
      exact cs_st hd hB hLP hδ ha hs h1 (hQ g1 h1)
    rcases ht with ht | ⟨rfl, ht⟩
    · exact cs_A hd hB hLP2 hδ ht hg (by omega) ho hv fin
    · exact cs_B (a := 1) hd hB hLP2 hδ ht hg (by omega) ho hv fin
theorem re_2 {g0 : pH} {B : tC} {n : Int} (hB : jB g0 B n) {p k δ : Int} {o v : tC} (hLP : lP n p k) (hδ : 0 ≤ δ ∧ δ ≤ 7) {t s : Int} (ht : 4 ≤ t ∧ t ≤ 6) (hs2 : s = 2 ∨ s = 3) {π : List (Int × Int)} (hs : tSp 1 π) (hk : 2 ≤ k) (ho : o (k - 1).toNat = s) (hv : v (k - 1).toNat = 0) (ho2 : o (k - 2).toNat = t) (hv2 : v (k - 2).toNat = 0) {g : pH} (hg : jSt g0 g p (k - 2) o v δ ((t, 0) :: (s, 0) :: π)) : jRe g0 1 p k o v δ π g := by
  have h9 := hB.2.2.2
  have h8 : k ≤ 240 := by unfold lP at hLP; omega
  have hLP2 : lP n p (k - 1) := by unfold lP at hLP ⊢; omega
  have hLP3 : lP n p (k - 2) := by unfold lP at hLP ⊢; omega
  refine ⟨⟨[(t, 0), (s, 0)], k - 2, fun q hq => ?_, ⟨by omega, by omega⟩, hg⟩, fun d hd Q hQ => ?_⟩
  · rcases List.mem_cons.mp hq with hq | hq
    · rw [hq]
      exact ht.2
    · rw [List.mem_singleton.mp hq]
      show s ≤ 6
      omega
  · refine cs_A hd hB hLP3 hδ ht hg (by omega) ho2 hv2 (fun g1 h1 => ?_)
    rw [show k - 2 + 1 = k - 1 by omega] at h1
    refine cs_B (a := 1) hd hB hLP2 hδ hs2 h1 (by omega) ho hv (fun g2 h2 => ?_)
    rw [show k - 1 + 1 = k by omega] at h2
    exact cs_st hd hB hLP hδ (Or.inr rfl) hs h2 (hQ g2 h2)
set_option maxHeartbeats 1000000 in
theorem jho_l {d : Nat} {g0 g : pH} {B : tC} {n : Int} (hB : jB g0 B n) {p k w op ft u : Int} {sa wa : tC} (hS : jS g0 g p k w op ft u sa wa) (hw : 0 ≤ w ∧ w ≤ 260) (hv : ∀ j : Nat, (j : Int) < w → 0 ≤ wa j ∧ wa j ≤ 2147483647) {P : Option pv × pH → Prop} : ∀ (y i : Nat) (lv : List (Nat × pv)), w - i ≤ y → px_lg lv 0 = some (pvR 196) → px_lg lv 2 = some (oI (i : Int)) → ((∃ j : Nat, i ≤ j ∧ (j : Int) < w ∧ wa j / 1048576 = 14) → P (some (oI 1), g)) → ((∀ j : Nat, i ≤ j → (j : Int) < w → wa j / 1048576 ≠ 14) → P (some (oI 0), g)) → (i : Int) ≤ 1000 → t_X d 197 2 lv [] g P := by
  intro y
  induction y with
  | zero =>
    intro i lv hy l0 l2 h1x h0x hi9
    refine t_0 jho_2 rfl (ld_i l2) ?_
    refine t_0 jho_3 rfl (ld_a l0) ?_
    refine t_0 jho_4 rfl (pq_cv jeo_196 rfl (show cF g 196 33 = w from S_f hS 2 (Nat.le_of_ble_eq_true rfl))) ?_
    show t_X d 197 7 lv [oI (w), oI ((i : Int))] g P
    refine tb_ge jho_7 (by decide) ⟨by omega, by omega⟩ ⟨by omega, by omega⟩ (fun c1 => ?_) (fun c1 => absurd c1 (by omega))
    show t_X d 197 33 lv [] g P
    refine t_0 jho_33 rfl rfl ?_
    refine t_5 jho_34 rfl rfl ?_
    exact h0x (fun j h1 h2 => absurd h2 (by omega))
  | succ y ih =>
    intro i lv hy l0 l2 h1x h0x hi9
    by_cases hii : (i : Int) < w
    · skip
      refine t_0 jho_2 rfl (ld_i l2) ?_
      refine t_0 jho_3 rfl (ld_a l0) ?_
      refine t_0 jho_4 rfl (pq_cv jeo_196 rfl (show cF g 196 33 = w from S_f hS 2 (Nat.le_of_ble_eq_true rfl))) ?_
      show t_X d 197 7 lv [oI (w), oI ((i : Int))] g P
      refine tb_ge jho_7 (by decide) ⟨by omega, by omega⟩ ⟨by omega, by omega⟩ (fun c1 => absurd c1 (by omega)) (fun c1 => ?_)
      show t_X d 197 10 lv [] g P
      refine t_0 jho_10 rfl (ld_a l0) ?_
      refine t_0 jho_11 rfl (jcq_196_37 (S_J hS).1) ?_
      show t_X d 197 14 lv [pvR 217] g P
      refine t_0 jho_14 rfl (ld_i l2) ?_
      refine t_0 jho_15 rfl (pq_iv jez_217 rfl ⟨by omega, by omega⟩ (show fA g 217 = wa from S_a hS 1 (Nat.le_of_ble_eq_true rfl))) ?_
      have r9 : 0 ≤ wa ((i : Int)).toNat ∧ wa ((i : Int)).toNat ≤ 2147483647 := hv i (by omega)
      rw [show ((i : Int)).toNat = i from rfl] at *
      show t_X d 197 16 lv [oI (wa i)] g P
      refine t_0 jho_16 rfl (pq_cw (n := 1048576) (by decide +kernel)) ?_
      refine t_0 jho_19 rfl (pq_div ⟨by omega, by omega⟩ ⟨by omega, by omega⟩) ?_
      refine t_0 jho_20 rfl (pq_b (by decide)) ?_
      refine tb_ne jho_22 (by decide) ⟨by omega, by omega⟩ ⟨by omega, by omega⟩ (fun c2 => ?_) (fun c2 => ?_)
      · show t_X d 197 27 lv [] g P
        refine t_2 jho_27 rfl (w := (px_s1 lv 2 (oI ((i : Int) + 1)), [])) (pq_inc l2 (by decide)) ?_
        replace l0 : px_lg (px_s1 lv 2 (oI ((i : Int) + 1))) 0 = some (pvR 196) := s1_ne (by decide) (fun _ => rfl) l0
        have l2 : px_lg (px_s1 lv 2 (oI ((i : Int) + 1))) 2 = some (oI ((i : Int) + 1)) := s1_eq
        generalize px_s1 lv 2 (oI ((i : Int) + 1)) = lv3 at l0 l2 ⊢
        show t_X d 197 30 lv3 [] g P
        refine t_1 jho_30 rfl (pb_goto (pc := 30) (by decide)) ?_
        show t_X d 197 2 lv3 [] g P
        exact ih (i + 1) _ (by omega) l0 (l2.trans (congrArg (fun x => some (oI x)) (by omega))) (fun ⟨j, h1, h2, h3⟩ => h1x ⟨j, by omega, h2, h3⟩) (fun h => h0x (fun j h1 h2 => by rcases Nat.lt_or_ge i j with e | e; exact h j (by omega) h2; rw [show j = i by omega]; omega)) (by omega)
      · show t_X d 197 25 lv [] g P
        refine t_0 jho_25 rfl rfl ?_
        refine t_5 jho_26 rfl rfl ?_
        exact h1x ⟨i, Nat.le_refl _, by omega, by omega⟩
    · skip
      refine t_0 jho_2 rfl (ld_i l2) ?_
      refine t_0 jho_3 rfl (ld_a l0) ?_
      refine t_0 jho_4 rfl (pq_cv jeo_196 rfl (show cF g 196 33 = w from S_f hS 2 (Nat.le_of_ble_eq_true rfl))) ?_
      show t_X d 197 7 lv [oI (w), oI ((i : Int))] g P
      refine tb_ge jho_7 (by decide) ⟨by omega, by omega⟩ ⟨by omega, by omega⟩ (fun c1 => ?_) (fun c1 => absurd c1 (by omega))
      show t_X d 197 33 lv [] g P
      refine t_0 jho_33 rfl rfl ?_
      refine t_5 jho_34 rfl rfl ?_
      exact h0x (fun j h1 h2 => absurd h2 (by omega))
theorem jho_run {d : Nat} {g0 g : pH} {B : tC} {n : Int} (hB : jB g0 B n) {p k w op ft u : Int} {sa wa : tC} (hS : jS g0 g p k w op ft u sa wa) {β : Nat} (hβ : (β : Int) ≤ 1000) (hw : 0 ≤ w ∧ w ≤ 260) (hv : ∀ j : Nat, (j : Int) < w → 0 ≤ wa j ∧ wa j ≤ 2147483647) {P : Option pv × pH → Prop} (h1 : (∃ j : Nat, β ≤ j ∧ (j : Int) < w ∧ wa j / 1048576 = 14) → P (some (oI 1), g)) (h0 : (∀ j : Nat, β ≤ j → (j : Int) < w → wa j / 1048576 ≠ 14) → P (some (oI 0), g)) {lv : List (Nat × pv)} (l0 : px_lg lv 0 = some (pvR 196)) (l1 : px_lg lv 1 = some (oI (β : Int))) : t_X d 197 0 lv [] g P := by
  refine t_0 jho_0 rfl (ld_i l1) ?_
  refine t_2 jho_1 rfl (w := (px_s1 lv 2 (oI ((β : Int))), [])) rfl ?_
  replace l0 : px_lg (px_s1 lv 2 (oI ((β : Int)))) 0 = some (pvR 196) := s1_ne (by decide) (fun _ => rfl) l0
  replace l1 : px_lg (px_s1 lv 2 (oI ((β : Int)))) 1 = some (oI ((β : Int))) := s1_ne (by decide) (fun _ => rfl) l1
  have l2 : px_lg (px_s1 lv 2 (oI ((β : Int)))) 2 = some (oI ((β : Int))) := s1_eq
  generalize px_s1 lv 2 (oI ((β : Int))) = lv1 at l0 l1 l2 ⊢
  show t_X d 197 2 lv1 [] g P
  exact jho_l hB hS hw hv 300 β _ (by omega) l0 l2 h1 h0 hβ
set_option maxHeartbeats 1000000 in
theorem jf_open {d : Nat} (hd : 4 ≤ d) {g0 : pH} {B : tC} {n : Int} (hB : jB g0 B n) {p k δ : Int} {o v : tC} (hLP : lP n p k) (hδ : 0 ≤ δ ∧ δ ≤ 7) {π : List (Int × Int)} {g : pH} (hg : jSt g0 g p k o v δ π) {Q : Option pv × pH → Prop} (hh : tH B n p = 91) (h6 : δ < 6) (hQ : ∀ g1, jSt g0 g1 (p + 1) k o v (δ + 1) ((14, 0) :: π) → jF d Q g1) : jF d Q g := by
  intro lv l0
  obtain ⟨ft, u, sa, wa, hS, hC, hT, hl⟩ := hg
  have hLP9 := hLP
  unfold lP at hLP9
  have hn0 := hB.2.2.1
  have hn1 := hB.2.2.2
  have hH : ∀ q, 0 ≤ q → -1 ≤ tH B n q ∧ tH B n q ≤ 255 := fun q hq => tH_b (jp_b hB.2.1) (by omega) hq
  refine t_0 jfa_0 rfl (ld_a l0) ?_
  refine t_3 jfa_1 rfl (ar := ([pvR 196], [])) (pcal_w (as := []) rfl rfl rfl jeo_196) ⟨by omega, Nat.le_of_ble_eq_true rfl, Nat.le_of_ble_eq_true rfl, rfl⟩ ?_
  refine jh_run hB hS (by omega) ?_ rfl
  have b1 := hH p (by omega)
  have z1 := tH_n (B := B) (n := n) (p := p)
  show t_X d 236 4 lv [oI (tH B n p)] g Q
  refine t_0 jfa_4 rfl (pq_b (by decide)) ?_
  refine tb_ne jfa_6 (by decide) ⟨by omega, by omega⟩ ⟨by omega, by omega⟩ (fun c2 => absurd c2 (by omega)) (fun c2 => ?_)
  show t_X d 236 9 lv [] g Q
  refine t_0 jfa_9 rfl (ld_a l0) ?_
  refine t_0 jfa_10 rfl (pq_b (by decide)) ?_
  refine t_3 jfa_12 rfl (ar := ([pvR 196, oI 14], [])) (pcal_w (as := [oI 14]) rfl rfl rfl jeo_196) ⟨by omega, Nat.le_of_ble_eq_true rfl, Nat.le_of_ble_eq_true rfl, rfl⟩ ?_
  refine jop_run (by omega) hB hS ⟨by omega, by omega⟩ (by omega) ⟨by omega, by omega⟩ ⟨by omega, by omega⟩ (fun t3 g3 hS3 => ?_) (fun t3 => absurd t3 (by omega)) rfl rfl
  show t_X d 236 15 lv [oI 1] g3 Q
  refine tz_ne jfa_15 (by decide) ⟨by omega, by omega⟩ (fun c4 => ?_) (fun c4 => absurd c4 (by omega))
  show t_X d 236 0 lv [] g3 Q
  refine hQ _ ⟨ft, u, sa, _, (show jS g0 g3 (p + 1) k (((14, 0) :: π).length : Int) (δ + 1) ft u sa _ by rw [show (((14, 0) :: π).length : Int) = (π.length : Int) + 1 by rw [List.length_cons]; omega]; exact hS3), hC, ?_, by rw [List.length_cons]; omega⟩ _ l0
  have h9 := jK_p (a := 14) (b := 0) (w := (π.length : Int)) rfl hT (by omega) (by omega)
  rw [Int.add_zero] at h9
  exact h9
set_option maxHeartbeats 1000000 in
theorem jf_deep {d : Nat} (hd : 4 ≤ d) {g0 : pH} {B : tC} {n : Int} (hB : jB g0 B n) {p k δ : Int} {o v : tC} (hLP : lP n p k) (hδ : 0 ≤ δ ∧ δ ≤ 7) {π : List (Int × Int)} {g : pH} (hg : jSt g0 g p k o v δ π) {Q : Option pv × pH → Prop} (hh : tH B n p = 91) (h6 : δ = 6) (hQ : jOK g0 Q (-5000 - p)) : jF d Q g := by
  intro lv l0
  obtain ⟨ft, u, sa, wa, hS, hC, hT, hl⟩ := hg
  have hLP9 := hLP
  unfold lP at hLP9
  have hn0 := hB.2.2.1
  have hn1 := hB.2.2.2
  have hH : ∀ q, 0 ≤ q → -1 ≤ tH B n q ∧ tH B n q ≤ 255 := fun q hq => tH_b (jp_b hB.2.1) (by omega) hq
  refine t_0 jfa_0 rfl (ld_a l0) ?_
  refine t_3 jfa_1 rfl (ar := ([pvR 196], [])) (pcal_w (as := []) rfl rfl rfl jeo_196) ⟨by omega, Nat.le_of_ble_eq_true rfl, Nat.le_of_ble_eq_true rfl, rfl⟩ ?_
  refine jh_run hB hS (by omega) ?_ rfl
  have b1 := hH p (by omega)
  have z1 := tH_n (B := B) (n := n) (p := p)
  show t_X d 236 4 lv [oI (tH B n p)] g Q
  refine t_0 jfa_4 rfl (pq_b (by decide)) ?_
  refine tb_ne jfa_6 (by decide) ⟨by omega, by omega⟩ ⟨by omega, by omega⟩ (fun c2 => absurd c2 (by omega)) (fun c2 => ?_)
  show t_X d 236 9 lv [] g Q
  refine t_0 jfa_9 rfl (ld_a l0) ?_
  refine t_0 jfa_10 rfl (pq_b (by decide)) ?_
  refine t_3 jfa_12 rfl (ar := ([pvR 196, oI 14], [])) (pcal_w (as := [oI 14]) rfl rfl rfl jeo_196) ⟨by omega, Nat.le_of_ble_eq_true rfl, Nat.le_of_ble_eq_true rfl, rfl⟩ ?_
  refine jop_run (by omega) hB hS ⟨by omega, by omega⟩ (by omega) ⟨by omega, by omega⟩ ⟨by omega, by omega⟩ (fun t3 => absurd t3 (by omega)) (fun t3 g3 hS3 => ?_) rfl rfl
  show t_X d 236 15 lv [oI 0] g3 Q
  refine tz_ne jfa_15 (by decide) ⟨by omega, by omega⟩ (fun c4 => absurd c4 (by omega)) (fun c4 => ?_)
  show t_X d 236 18 lv [] g3 Q
  refine t_0 jfa_18 rfl rfl ?_
  refine t_5 jfa_19 rfl rfl ?_
  exact hQ _ ⟨_, _, _, _, _, _, _, hS3⟩
set_option maxHeartbeats 1000000 in
theorem jf_num {d : Nat} (hd : 4 ≤ d) {g0 : pH} {B : tC} {n : Int} (hB : jB g0 B n) {p k δ : Int} {o v : tC} (hLP : lP n p k) (hδ : 0 ≤ δ ∧ δ ≤ 7) {π : List (Int × Int)} {g : pH} (hg : jSt g0 g p k o v δ π) {Q : Option pv × pH → Prop} (hdg : tDg (tH B n p)) (hF : ∀ g1 f, jFt g0 g1 f → lNf (tH B n) p f → Q (some (oI 0), g1)) (hO : ∀ g1 x q, lNu (tH B n) p x q → jSt g0 g1 q (k + 1) (updI o k.toNat 0) (updI v k.toNat x) δ π → Q (some (oI 1), g1)) : jF d Q g := by
  intro lv l0
  obtain ⟨ft, u, sa, wa, hS, hC, hT, hl⟩ := hg
  have hLP9 := hLP
  unfold lP at hLP9
  have hn0 := hB.2.2.1
  have hn1 := hB.2.2.2
  have hH : ∀ q, 0 ≤ q → -1 ≤ tH B n q ∧ tH B n q ≤ 255 := fun q hq => tH_b (jp_b hB.2.1) (by omega) hq
  have hh : tH B n p ≠ 91 := by unfold tDg at hdg; omega
  refine t_0 jfa_0 rfl (ld_a l0) ?_
  refine t_3 jfa_1 rfl (ar := ([pvR 196], [])) (pcal_w (as := []) rfl rfl rfl jeo_196) ⟨by omega, Nat.le_of_ble_eq_true rfl, Nat.le_of_ble_eq_true rfl, rfl⟩ ?_
  refine jh_run hB hS (by omega) ?_ rfl
  have b1 := hH p (by omega)
  have z1 := tH_n (B := B) (n := n) (p := p)
  show t_X d 236 4 lv [oI (tH B n p)] g Q
  refine t_0 jfa_4 rfl (pq_b (by decide)) ?_
  refine tb_ne jfa_6 (by decide) ⟨by omega, by omega⟩ ⟨by omega, by omega⟩ (fun c2 => ?_) (fun c2 => absurd c2 (by omega))
  show t_X d 236 20 lv [] g Q
  refine t_0 jfa_20 rfl (ld_a l0) ?_
  refine t_3 jfa_21 rfl (ar := ([pvR 196], [])) (pcal_w (as := []) rfl rfl rfl jeo_196) ⟨by omega, Nat.le_of_ble_eq_true rfl, Nat.le_of_ble_eq_true rfl, rfl⟩ ?_
  refine jd_run (by omega) hB hS (by omega) (fun _ => ?_) (fun t3 => absurd hdg t3) rfl
  show t_X d 236 24 lv [oI 1] g Q
  refine tz_eq jfa_24 (by decide) ⟨by omega, by omega⟩ (fun c4 => absurd c4 (by omega)) (fun c4 => ?_)
  show t_X d 236 27 lv [] g Q
  refine t_0 jfa_27 rfl (ld_a l0) ?_
  refine t_3 jfa_28 rfl (ar := ([pvR 196], [])) (pcal_w (as := []) rfl rfl rfl jeo_196) ⟨by omega, Nat.le_of_ble_eq_true rfl, Nat.le_of_ble_eq_true rfl, rfl⟩ ?_
  refine jrn_run (by omega) hB hS ⟨by omega, by omega⟩ hdg (fun g9 f9 j9 t9 => ?_) (fun g8 x8 q8 hS8 t8 => ?_) rfl
  · show t_X d 236 31 lv [oI 0] g9 Q
    refine tz_ne jfa_31 (by decide) ⟨by omega, by omega⟩ (fun c5 => absurd c5 (by omega)) (fun c5 => ?_)
    show t_X d 236 34 lv [] g9 Q
    refine t_0 jfa_34 rfl rfl ?_
    refine t_5 jfa_35 rfl rfl ?_
    exact hF _ _ j9 t9
  · have b9 := lNu_b t8
    have z9 := tH_n (B := B) (n := n) (p := q8 - 1)
    unfold tDg at b9
    show t_X d 236 31 lv [oI 1] g8 Q
    refine tz_ne jfa_31 (by decide) ⟨by omega, by omega⟩ (fun c6 => ?_) (fun c6 => absurd c6 (by omega))
    show t_X d 236 36 lv [] g8 Q
    refine t_0 jfa_36 rfl (ld_a l0) ?_
    refine t_0 jfa_37 rfl rfl ?_
    refine t_0 jfa_38 rfl (ld_a l0) ?_
    refine t_0 jfa_39 rfl (pq_cv jeo_196 rfl (show cF g8 196 21 = x8 from S_f hS8 5 (Nat.le_of_ble_eq_true rfl))) ?_
    show t_X d 236 42 lv [oI (x8), oI 0, pvR 196] g8 Q
    refine t_3 jfa_42 rfl (ar := ([pvR 196, oI 0, oI (x8)], [])) (pcal_w (as := [oI (x8), oI 0]) rfl rfl rfl jeo_196) ⟨by omega, Nat.le_of_ble_eq_true rfl, Nat.le_of_ble_eq_true rfl, rfl⟩ ?_
    refine jno_run hB hS8 ⟨by omega, by omega⟩ ⟨by omega, by omega⟩ ⟨by omega, by omega⟩ (fun g7 hS7 => ?_) rfl rfl rfl
    replace hS7 : jS g0 g7 q8 (k + 1) (π.length : Int) δ ft x8 (updI sa k.toNat (1048576 * 0 + x8)) wa := hS7
    show t_X d 236 45 lv [] g7 Q
    refine t_0 jfa_45 rfl rfl ?_
    refine t_5 jfa_46 rfl rfl ?_
    exact hO _ _ _ t8 ⟨ft, _, _, wa, hS7, (by have h9 := jC_e (a := 0) (b := x8) (by omega) hC (by omega) (by omega); exact h9), hT, by omega⟩
set_option maxHeartbeats 1000000 in
theorem jf_let {d : Nat} (hd : 4 ≤ d) {g0 : pH} {B : tC} {n : Int} (hB : jB g0 B n) {p k δ : Int} {o v : tC} (hLP : lP n p k) (hδ : 0 ≤ δ ∧ δ ≤ 7) {π : List (Int × Int)} {g : pH} (hg : jSt g0 g p k o v δ π) {Q : Option pv × pH → Prop} (hh : tH B n p ≠ 91) (hdg : ¬ tDg (tH B n p)) (hfa : 0 ≤ lFa (tH B n p)) (hO : ∀ g1, jSt g0 g1 (p + 1) (k + 1) (updI o k.toNat 1) (updI v k.toNat (lFa (tH B n p))) δ π → Q (some (oI 1), g1)) : jF d Q g := by
  intro lv l0
  obtain ⟨ft, u, sa, wa, hS, hC, hT, hl⟩ := hg
  have hLP9 := hLP
  unfold lP at hLP9
  have hn0 := hB.2.2.1
  have hn1 := hB.2.2.2
  have hH : ∀ q, 0 ≤ q → -1 ≤ tH B n q ∧ tH B n q ≤ 255 := fun q hq => tH_b (jp_b hB.2.1) (by omega) hq
  have w9 := lFa_b (tH B n p)
  refine t_0 jfa_0 rfl (ld_a l0) ?_
  refine t_3 jfa_1 rfl (ar := ([pvR 196], [])) (pcal_w (as := []) rfl rfl rfl jeo_196) ⟨by omega, Nat.le_of_ble_eq_true rfl, Nat.le_of_ble_eq_true rfl, rfl⟩ ?_
  refine jh_run hB hS (by omega) ?_ rfl
  have b1 := hH p (by omega)
  have z1 := tH_n (B := B) (n := n) (p := p)
  show t_X d 236 4 lv [oI (tH B n p)] g Q
  refine t_0 jfa_4 rfl (pq_b (by decide)) ?_
  refine tb_ne jfa_6 (by decide) ⟨by omega, by omega⟩ ⟨by omega, by omega⟩ (fun c2 => ?_) (fun c2 => absurd c2 (by omega))
  show t_X d 236 20 lv [] g Q
  refine t_0 jfa_20 rfl (ld_a l0) ?_
  refine t_3 jfa_21 rfl (ar := ([pvR 196], [])) (pcal_w (as := []) rfl rfl rfl jeo_196) ⟨by omega, Nat.le_of_ble_eq_true rfl, Nat.le_of_ble_eq_true rfl, rfl⟩ ?_
  refine jd_run (by omega) hB hS (by omega) (fun t3 => absurd t3 hdg) (fun _ => ?_) rfl
  show t_X d 236 24 lv [oI 0] g Q
  refine tz_eq jfa_24 (by decide) ⟨by omega, by omega⟩ (fun c4 => ?_) (fun c4 => absurd c4 (by omega))
  show t_X d 236 47 lv [] g Q
  refine t_0 jfa_47 rfl (ld_a l0) ?_
  refine t_3 jfa_48 rfl (ar := ([pvR 196], [])) (pcal_w (as := []) rfl rfl rfl jeo_196) ⟨by omega, Nat.le_of_ble_eq_true rfl, Nat.le_of_ble_eq_true rfl, rfl⟩ ?_
  refine jh_run hB hS (by omega) ?_ rfl
  show t_X d 236 51 lv [oI (tH B n p)] g Q
  refine t_3 jfa_51 rfl (ar := ([oI (tH B n p)], [])) (pcal_s ⟨Or.inl rfl, rfl, Nat.le_of_ble_eq_true rfl⟩) ⟨by omega, Nat.le_of_ble_eq_true rfl, Nat.le_of_ble_eq_true rfl, rfl⟩ ?_
  refine jfo_run ⟨by omega, by omega⟩ ?_ rfl
  show t_X d 236 54 lv [oI (lFa (tH B n p))] g Q
  refine t_2 jfa_54 rfl (w := (px_s1 lv 1 (oI (lFa (tH B n p))), [])) rfl ?_
  replace l0 : px_lg (px_s1 lv 1 (oI (lFa (tH B n p)))) 0 = some (pvR 196) := s1_ne (by decide) (fun _ => rfl) l0
  have l1 : px_lg (px_s1 lv 1 (oI (lFa (tH B n p)))) 1 = some (oI (lFa (tH B n p))) := s1_eq
  generalize px_s1 lv 1 (oI (lFa (tH B n p))) = lv5 at l0 l1 ⊢
  show t_X d 236 55 lv5 [] g Q
  refine t_0 jfa_55 rfl (ld_i l1) ?_
  refine t_0 jfa_56 rfl rfl ?_
  refine tb_ne jfa_57 (by decide) ⟨by omega, by omega⟩ ⟨by omega, by omega⟩ (fun c6 => ?_) (fun c6 => absurd c6 (by omega))
  show t_X d 236 70 lv5 [] g Q
  refine t_0 jfa_70 rfl (ld_a l0) ?_
  refine t_0 jfa_71 rfl rfl ?_
  refine t_0 jfa_72 rfl (ld_i l1) ?_
  refine t_3 jfa_73 rfl (ar := ([pvR 196, oI 1, oI (lFa (tH B n p))], [])) (pcal_w (as := [oI (lFa (tH B n p)), oI 1]) rfl rfl rfl jeo_196) ⟨by omega, Nat.le_of_ble_eq_true rfl, Nat.le_of_ble_eq_true rfl, rfl⟩ ?_
  refine jno_run hB hS ⟨by omega, by omega⟩ ⟨by omega, by omega⟩ ⟨by omega, by omega⟩ (fun g7 hS7 => ?_) rfl rfl rfl
  replace hS7 : jS g0 g7 p (k + 1) (π.length : Int) δ ft u (updI sa k.toNat (1048576 * 1 + (lFa (tH B n p)))) wa := hS7
  show t_X d 236 76 lv5 [] g7 Q
  refine t_0 jfa_76 rfl (ld_a l0) ?_
  refine t_0 jfa_77 rfl (ld_a l0) ?_
  refine t_0 jfa_78 rfl (pq_cv jeo_196 rfl (show cF g7 196 18 = p from S_f hS7 0 (Nat.le_of_ble_eq_true rfl))) ?_
  show t_X d 236 81 lv5 [oI (p), pvR 196] g7 Q
  refine t_0 jfa_81 rfl rfl ?_
  refine t_0 jfa_82 rfl pq_add ?_
  refine ts_f (n := 0) rfl rfl (by decide) jfa_83 rfl jeo_196 hS7 wt_jW_196_18 jgy_196_18 (by decide) ⟨by omega, by omega⟩ (fun g8 hS8 => ?_)
  replace hS8 : jS g0 g8 (p + 1) (k + 1) (π.length : Int) δ ft u (updI sa k.toNat (1048576 * 1 + (lFa (tH B n p)))) wa := hS8
  show t_X d 236 86 lv5 [] g8 Q
  refine t_0 jfa_86 rfl rfl ?_
  refine t_5 jfa_87 rfl rfl ?_
  exact hO _ ⟨ft, u, _, wa, hS8, jC_e (by omega) hC (by omega) (by omega), hT, by omega⟩
set_option maxHeartbeats 1000000 in
theorem jf_bad {d : Nat} (hd : 4 ≤ d) {g0 : pH} {B : tC} {n : Int} (hB : jB g0 B n) {p k δ : Int} {o v : tC} (hLP : lP n p k) (hδ : 0 ≤ δ ∧ δ ≤ 7) {π : List (Int × Int)} {g : pH} (hg : jSt g0 g p k o v δ π) {Q : Option pv × pH → Prop} (hh : tH B n p ≠ 91) (hdg : ¬ tDg (tH B n p)) (hfa : lFa (tH B n p) = -1) (hQ : jOK g0 Q (-1000 - p)) : jF d Q g := by
  intro lv l0
  obtain ⟨ft, u, sa, wa, hS, hC, hT, hl⟩ := hg
  have hLP9 := hLP
  unfold lP at hLP9
  have hn0 := hB.2.2.1
  have hn1 := hB.2.2.2
  have hH : ∀ q, 0 ≤ q → -1 ≤ tH B n q ∧ tH B n q ≤ 255 := fun q hq => tH_b (jp_b hB.2.1) (by omega) hq
  refine t_0 jfa_0 rfl (ld_a l0) ?_
  refine t_3 jfa_1 rfl (ar := ([pvR 196], [])) (pcal_w (as := []) rfl rfl rfl jeo_196) ⟨by omega, Nat.le_of_ble_eq_true rfl, Nat.le_of_ble_eq_true rfl, rfl⟩ ?_
  refine jh_run hB hS (by omega) ?_ rfl
  have b1 := hH p (by omega)
  have z1 := tH_n (B := B) (n := n) (p := p)
  show t_X d 236 4 lv [oI (tH B n p)] g Q
  refine t_0 jfa_4 rfl (pq_b (by decide)) ?_
  refine tb_ne jfa_6 (by decide) ⟨by omega, by omega⟩ ⟨by omega, by omega⟩ (fun c2 => ?_) (fun c2 => absurd c2 (by omega))
  show t_X d 236 20 lv [] g Q
  refine t_0 jfa_20 rfl (ld_a l0) ?_
  refine t_3 jfa_21 rfl (ar := ([pvR 196], [])) (pcal_w (as := []) rfl rfl rfl jeo_196) ⟨by omega, Nat.le_of_ble_eq_true rfl, Nat.le_of_ble_eq_true rfl, rfl⟩ ?_
  refine jd_run (by omega) hB hS (by omega) (fun t3 => absurd t3 hdg) (fun _ => ?_) rfl
  show t_X d 236 24 lv [oI 0] g Q
  refine tz_eq jfa_24 (by decide) ⟨by omega, by omega⟩ (fun c4 => ?_) (fun c4 => absurd c4 (by omega))
  show t_X d 236 47 lv [] g Q
  refine t_0 jfa_47 rfl (ld_a l0) ?_
  refine t_3 jfa_48 rfl (ar := ([pvR 196], [])) (pcal_w (as := []) rfl rfl rfl jeo_196) ⟨by omega, Nat.le_of_ble_eq_true rfl, Nat.le_of_ble_eq_true rfl, rfl⟩ ?_
  refine jh_run hB hS (by omega) ?_ rfl
  show t_X d 236 51 lv [oI (tH B n p)] g Q
  refine t_3 jfa_51 rfl (ar := ([oI (tH B n p)], [])) (pcal_s ⟨Or.inl rfl, rfl, Nat.le_of_ble_eq_true rfl⟩) ⟨by omega, Nat.le_of_ble_eq_true rfl, Nat.le_of_ble_eq_true rfl, rfl⟩ ?_
  refine jfo_run ⟨by omega, by omega⟩ ?_ rfl
  show t_X d 236 54 lv [oI (lFa (tH B n p))] g Q
  refine t_2 jfa_54 rfl (w := (px_s1 lv 1 (oI (lFa (tH B n p))), [])) rfl ?_
  replace l0 : px_lg (px_s1 lv 1 (oI (lFa (tH B n p)))) 0 = some (pvR 196) := s1_ne (by decide) (fun _ => rfl) l0
  have l1 : px_lg (px_s1 lv 1 (oI (lFa (tH B n p)))) 1 = some (oI (lFa (tH B n p))) := s1_eq
  generalize px_s1 lv 1 (oI (lFa (tH B n p))) = lv5 at l0 l1 ⊢
  show t_X d 236 55 lv5 [] g Q
  refine t_0 jfa_55 rfl (ld_i l1) ?_
  refine t_0 jfa_56 rfl rfl ?_
  refine tb_ne jfa_57 (by decide) ⟨by omega, by omega⟩ ⟨by omega, by omega⟩ (fun c6 => absurd c6 (by omega)) (fun c6 => ?_)
  show t_X d 236 60 lv5 [] g Q
  refine t_0 jfa_60 rfl (ld_a l0) ?_
  refine t_0 jfa_61 rfl rfl ?_
  refine t_0 jfa_62 rfl (ld_a l0) ?_
  refine t_0 jfa_63 rfl (pq_cv jeo_196 rfl (show cF g 196 18 = p from S_f hS 0 (Nat.le_of_ble_eq_true rfl))) ?_
  show t_X d 236 66 lv5 [oI (p), oI 1, pvR 196] g Q
  refine t_3 jfa_66 rfl (ar := ([pvR 196, oI 1, oI (p)], [])) (pcal_w (as := [oI (p), oI 1]) rfl rfl rfl jeo_196) ⟨by omega, Nat.le_of_ble_eq_true rfl, Nat.le_of_ble_eq_true rfl, rfl⟩ ?_
  refine jw_run hB hS ⟨by omega, by omega⟩ ⟨by omega, by omega⟩ (fun g7 hS7 => ?_) rfl rfl rfl
  replace hS7 : jS g0 g7 p k (π.length : Int) δ (-1000 * 1 - p) u sa wa := hS7
  show t_X d 236 69 lv5 [oI 0] g7 Q
  refine t_5 jfa_69 rfl rfl ?_
  exact hQ _ ⟨_, _, _, _, _, _, _, (show jS g0 g7 _ _ _ _ (-1000 - p) _ _ _ by rw [show -1000 - p = -1000 * 1 - p by omega]; exact hS7)⟩
