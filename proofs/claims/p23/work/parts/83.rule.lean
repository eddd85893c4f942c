/-! by hand: rules over Int -/
abbrev oI (e : Int) : pv := .inl (Int32.ofInt e)
def fF (h : pH) (y : Nat) : Int := (h.1 196 y).toInt
def fA (h : pH) (k j : Nat) : Int := (h.2.2.2.1 k j).toInt
theorem oT {e : Int} (h0 : -2147483648 ≤ e) (h1 : e ≤ 2147483647) : (Int32.ofInt e).toInt = e := Int32.toInt_ofInt_of_le (by omega) (by omega)
theorem i32_b (x : Int32) : -2147483648 ≤ x.toInt ∧ x.toInt ≤ 2147483647 := ⟨by have := x.le_toInt; omega, by have := x.toInt_lt; omega⟩
theorem fF_b (h : pH) (y : Nat) : -2147483648 ≤ fF h y ∧ fF h y ≤ 2147483647 := i32_b _
theorem fA_b (h : pH) (k j : Nat) : -2147483648 ≤ fA h k j ∧ fA h k j ≤ 2147483647 := i32_b _
theorem oI_r (x : Int32) : (.inl x : pv) = oI x.toInt := congrArg Sum.inl (Int32.ofInt_toInt x).symm
theorem ne_oI {b : Int} (h : -2147483648 ≤ b ∧ b ≤ 2147483647) (hb : b ≠ 0) : ¬ Int32.ofInt b = 0 := fun z => hb (by
  have := congrArg Int32.toInt z
  rw [oT h.1 h.2] at this
  exact this)
theorem lt_oI {a b : Int} (ha : -2147483648 ≤ a ∧ a ≤ 2147483647) (hb : -2147483648 ≤ b ∧ b ≤ 2147483647) : Int32.ofInt a < Int32.ofInt b ↔ a < b := by
  rw [Int32.lt_iff_toInt_lt, oT ha.1 ha.2, oT hb.1 hb.2]
theorem eq_oI {a b : Int} (ha : -2147483648 ≤ a ∧ a ≤ 2147483647) (hb : -2147483648 ≤ b ∧ b ≤ 2147483647) : Int32.ofInt a = Int32.ofInt b ↔ a = b := by
  rw [← Int32.toInt_inj, oT ha.1 ha.2, oT hb.1 hb.2]
theorem z_oI : (0 : Int32) = Int32.ofInt 0 := by decide
theorem fA_2 {g g1 : pH} (h : g1.2 = g.2) : fA g1 = fA g := by
  unfold fA
  rw [h]
theorem fF_1 {g g1 : pH} (h : g1.1 = g.1) : fF g1 = fF g := by
  unfold fF
  rw [h]
section RU
variable {d x y : Nat} {lv : List (Nat × pv)} {h : pH} {r : List pv} {a b : Int}
theorem pq_add : px_push eL d none .iadd x y lv (oI b :: oI a :: r) h = some (oI (a + b) :: r) := by
  show some ((.inl (Int32.ofInt a + Int32.ofInt b) : pv) :: r) = some ((.inl (Int32.ofInt (a + b)) : pv) :: r)
  rw [Int32.ofInt_add]
theorem pq_sub : px_push eL d none .isub x y lv (oI b :: oI a :: r) h = some (oI (a - b) :: r) := by
  show some ((.inl (Int32.ofInt a - Int32.ofInt b) : pv) :: r) = some ((.inl (Int32.ofInt (a - b)) : pv) :: r)
  rw [Int32.ofInt_sub]
theorem pq_mul : px_push eL d none .imul x y lv (oI b :: oI a :: r) h = some (oI (a * b) :: r) := by
  show some ((.inl (Int32.ofInt a * Int32.ofInt b) : pv) :: r) = some ((.inl (Int32.ofInt (a * b)) : pv) :: r)
  rw [Int32.ofInt_mul]
theorem dv_oI (ha : 0 ≤ a ∧ a ≤ 2147483647) (hb : 0 < b ∧ b ≤ 2147483647) : Int32.ofInt a / Int32.ofInt b = Int32.ofInt (a / b) := by
  rw [← Int.tdiv_eq_ediv_of_nonneg ha.1]
  have e1 : Int32.minValue.toInt = -2147483648 := by decide
  have e2 : Int32.maxValue.toInt = 2147483647 := by decide
  exact (Int32.ofInt_tdiv (by omega) (by omega) (by omega) (by omega)).symm
theorem pq_div (ha : 0 ≤ a ∧ a ≤ 2147483647) (hb : 0 < b ∧ b ≤ 2147483647) : px_push eL d none .idiv x y lv (oI b :: oI a :: r) h = some (oI (a / b) :: r) := by
  show (if Int32.ofInt b = 0 then none else some ((.inl (Int32.ofInt a / Int32.ofInt b) : pv) :: r)) = _
  rw [if_neg (ne_oI ⟨by omega, hb.2⟩ (by omega)), dv_oI ha hb]
theorem pq_rem (ha : 0 ≤ a ∧ a ≤ 2147483647) (hb : 0 < b ∧ b ≤ 2147483647) : px_push eL d none .irem x y lv (oI b :: oI a :: r) h = some (oI (a % b) :: r) := by
  show (if Int32.ofInt b = 0 then none else some ((.inl (Int32.ofInt a - Int32.ofInt a / Int32.ofInt b * Int32.ofInt b) : pv) :: r)) = _
  rw [if_neg (ne_oI ⟨by omega, hb.2⟩ (by omega)), dv_oI ha hb, ← Int32.ofInt_mul, ← Int32.ofInt_sub, Int.emod_def, Int.mul_comm b]
theorem pq_dx (hb : -2147483648 ≤ b ∧ b ≤ 2147483647) (hn : b ≠ 0) : ∃ c : Int32, px_push eL d none .idiv x y lv (oI b :: oI a :: r) h = some (.inl c :: r) := ⟨_, if_neg (ne_oI hb hn)⟩
theorem pq_rx (hb : -2147483648 ≤ b ∧ b ≤ 2147483647) (hn : b ≠ 0) : ∃ c : Int32, px_push eL d none .irem x y lv (oI b :: oI a :: r) h = some (.inl c :: r) := ⟨_, if_neg (ne_oI hb hn)⟩
theorem pq_b {n : Int} (e : (Int8.ofInt n).toInt32 = Int32.ofInt n) : px_push eL d none (.bipush n) x y lv r h = some (oI n :: r) := by
  show some ((.inl (Int8.ofInt n).toInt32 : pv) :: r) = _
  rw [e]
theorem pq_s {n : Int} (e : (Int16.ofInt n).toInt32 = Int32.ofInt n) : px_push eL d none (.sipush n) x y lv r h = some (oI n :: r) := by
  show some ((.inl (Int16.ofInt n).toInt32 : pv) :: r) = _
  rw [e]
theorem pq_c {i : Nat} {n : Int} (e : xe_j y = Int32.ofInt n) : px_push eL d none (.ldc i) 0 y lv r h = some (oI n :: r) := by
  show (if 0 = 0 then some ((.inl (xe_j y) : pv) :: r) else if 0 = 1 ∧ y < 5 then some (.inr (.inr (some (1001 + y))) :: r) else none) = _
  rw [if_pos rfl, e]
theorem pq_cw {i : Nat} {n : Int} (e : xe_j y = Int32.ofInt n) : px_push eL d none (.ldc_w i) 0 y lv r h = some (oI n :: r) := by
  show (if 0 = 0 then some ((.inl (xe_j y) : pv) :: r) else none) = _
  rw [if_pos rfl, e]
theorem pq_gf {i : Nat} (ht : xk_ty 12 y = .int) : px_push eL d none (.getfield i) 12 y lv (pvR 196 :: r) h = some (oI (fF h y) :: r) := by
  rw [pget el_196 (pFi ht), oI_r]
  rfl
theorem pq_ia {k n : Nat} {e : Int} (hk : eL[k]? = some (1, n)) (hn : Nat.ble n 10000 = true) (he : 0 ≤ e ∧ e < n) : px_push eL d none .iaload x y lv (oI e :: pvR k :: r) h = some (oI (fA h k e.toNat) :: r) := by
  have hn := Nat.le_of_ble_eq_true hn
  have e1 : (Int32.ofInt e).toInt = e := oT (by omega) (by omega)
  rw [piald (eL_ne hk) hk (e_clamp (by rw [e1]; exact he.1) (by rw [e1]; omega)), oI_r]
  show some ((.inl (Int32.ofInt (fA h k (Int32.ofInt e).toInt.toNat)) : pv) :: r) = _
  rw [e1]
theorem pq_ba {k n : Nat} {e : Int} (hk : eL[k]? = some (2, n)) (hn : Nat.ble n 10000 = true) (he : 0 ≤ e ∧ e < n) : px_push eL d none .baload x y lv (oI e :: pvR k :: r) h = some (oI (fA h k e.toNat) :: r) := by
  have hn := Nat.le_of_ble_eq_true hn
  have e1 : (Int32.ofInt e).toInt = e := oT (by omega) (by omega)
  rw [pbald hk (e_clamp (by rw [e1]; exact he.1) (by rw [e1]; omega)), oI_r]
  show some ((.inl (Int32.ofInt (fA h k (Int32.ofInt e).toInt.toNat)) : pv) :: r) = _
  rw [e1]
theorem pq_inc {i L : Nat} {n : Int} (hl : px_lg lv i = some (oI a)) (hL : i < L) : px_of (.iinc i n) L lv r = some (px_s1 lv i (oI (a + n)), r) := by
  rw [pinc hl hL, ← Int32.ofInt_add]
end RU
section RV
variable {d μ pc x y z W : Nat} {lv : List (Nat × pv)} {g h0 : pH} {r : List pv} {a b o : Int} {P : Option pv × pH → Prop}
theorem tb_lt (hq : xe_look (xc μ) pc = some (.if_icmp .lt o, 3, 0, 0, 0)) (ho : 0 ≤ (pc : Int) + o) (ha : -2147483648 ≤ a ∧ a ≤ 2147483647) (hb : -2147483648 ≤ b ∧ b ≤ 2147483647) (ht : a < b → t_X d μ (px_tg pc o) lv r g P) (hf : b ≤ a → t_X d μ (pc + 3) lv r g P) : t_X d μ pc lv (oI b :: oI a :: r) g P := by
  by_cases k : a < b
  · exact t_1 hq rfl (pc_lt_t ho ((lt_oI ha hb).mpr k)) (ht k)
  · exact t_1 hq rfl (pc_lt_f ho (fun z => k ((lt_oI ha hb).mp z))) (hf (by omega))
theorem tz_lt (hq : xe_look (xc μ) pc = some (.ifCond .lt o, 3, 0, 0, 0)) (ho : 0 ≤ (pc : Int) + o) (ha : -2147483648 ≤ a ∧ a ≤ 2147483647) (ht : a < 0 → t_X d μ (px_tg pc o) lv r g P) (hf : 0 ≤ a → t_X d μ (pc + 3) lv r g P) : t_X d μ pc lv (oI a :: r) g P := by
  have q := (lt_oI (b := 0) ha ⟨by decide, by decide⟩)
  rw [← z_oI] at q
  by_cases k : a < 0
  · exact t_1 hq rfl (pb_lt_t ho (q.mpr k)) (ht k)
  · exact t_1 hq rfl (pb_lt_f ho (fun z => k (q.mp z))) (hf (by omega))
theorem tb_ge (hq : xe_look (xc μ) pc = some (.if_icmp .ge o, 3, 0, 0, 0)) (ho : 0 ≤ (pc : Int) + o) (ha : -2147483648 ≤ a ∧ a ≤ 2147483647) (hb : -2147483648 ≤ b ∧ b ≤ 2147483647) (ht : b ≤ a → t_X d μ (px_tg pc o) lv r g P) (hf : a < b → t_X d μ (pc + 3) lv r g P) : t_X d μ pc lv (oI b :: oI a :: r) g P := by
  by_cases k : a < b
  · exact t_1 hq rfl (pc_ge_f ho ((lt_oI ha hb).mpr k)) (hf (by omega))
  · exact t_1 hq rfl (pc_ge_t ho (fun z => k ((lt_oI ha hb).mp z))) (ht (by omega))
theorem tz_ge (hq : xe_look (xc μ) pc = some (.ifCond .ge o, 3, 0, 0, 0)) (ho : 0 ≤ (pc : Int) + o) (ha : -2147483648 ≤ a ∧ a ≤ 2147483647) (ht : 0 ≤ a → t_X d μ (px_tg pc o) lv r g P) (hf : a < 0 → t_X d μ (pc + 3) lv r g P) : t_X d μ pc lv (oI a :: r) g P := by
  have q := (lt_oI (b := 0) ha ⟨by decide, by decide⟩)
  rw [← z_oI] at q
  by_cases k : a < 0
  · exact t_1 hq rfl (pb_ge_f ho (q.mpr k)) (hf (by omega))
  · exact t_1 hq rfl (pb_ge_t ho (fun z => k (q.mp z))) (ht (by omega))
theorem tb_gt (hq : xe_look (xc μ) pc = some (.if_icmp .gt o, 3, 0, 0, 0)) (ho : 0 ≤ (pc : Int) + o) (ha : -2147483648 ≤ a ∧ a ≤ 2147483647) (hb : -2147483648 ≤ b ∧ b ≤ 2147483647) (ht : b < a → t_X d μ (px_tg pc o) lv r g P) (hf : a ≤ b → t_X d μ (pc + 3) lv r g P) : t_X d μ pc lv (oI b :: oI a :: r) g P := by
  by_cases k : b < a
  · exact t_1 hq rfl (pc_gt_t ho ((lt_oI hb ha).mpr k)) (ht k)
  · exact t_1 hq rfl (pc_gt_f ho (fun z => k ((lt_oI hb ha).mp z))) (hf (by omega))
theorem tz_gt (hq : xe_look (xc μ) pc = some (.ifCond .gt o, 3, 0, 0, 0)) (ho : 0 ≤ (pc : Int) + o) (ha : -2147483648 ≤ a ∧ a ≤ 2147483647) (ht : 0 < a → t_X d μ (px_tg pc o) lv r g P) (hf : a ≤ 0 → t_X d μ (pc + 3) lv r g P) : t_X d μ pc lv (oI a :: r) g P := by
  have q := (lt_oI (a := 0) ⟨by decide, by decide⟩ ha)
  rw [← z_oI] at q
  by_cases k : 0 < a
  · exact t_1 hq rfl (pb_gt_t ho (q.mpr k)) (ht k)
  · exact t_1 hq rfl (pb_gt_f ho (fun z => k (q.mp z))) (hf (by omega))
theorem tb_le (hq : xe_look (xc μ) pc = some (.if_icmp .le o, 3, 0, 0, 0)) (ho : 0 ≤ (pc : Int) + o) (ha : -2147483648 ≤ a ∧ a ≤ 2147483647) (hb : -2147483648 ≤ b ∧ b ≤ 2147483647) (ht : a ≤ b → t_X d μ (px_tg pc o) lv r g P) (hf : b < a → t_X d μ (pc + 3) lv r g P) : t_X d μ pc lv (oI b :: oI a :: r) g P := by
  by_cases k : b < a
  · exact t_1 hq rfl (pc_le_f ho ((lt_oI hb ha).mpr k)) (hf (by omega))
  · exact t_1 hq rfl (pc_le_t ho (fun z => k ((lt_oI hb ha).mp z))) (ht (by omega))
theorem tz_le (hq : xe_look (xc μ) pc = some (.ifCond .le o, 3, 0, 0, 0)) (ho : 0 ≤ (pc : Int) + o) (ha : -2147483648 ≤ a ∧ a ≤ 2147483647) (ht : a ≤ 0 → t_X d μ (px_tg pc o) lv r g P) (hf : 0 < a → t_X d μ (pc + 3) lv r g P) : t_X d μ pc lv (oI a :: r) g P := by
  have q := (lt_oI (a := 0) ⟨by decide, by decide⟩ ha)
  rw [← z_oI] at q
  by_cases k : 0 < a
  · exact t_1 hq rfl (pb_le_f ho (q.mpr k)) (hf (by omega))
  · exact t_1 hq rfl (pb_le_t ho (fun z => k (q.mp z))) (ht (by omega))
theorem tb_eq (hq : xe_look (xc μ) pc = some (.if_icmp .eq o, 3, 0, 0, 0)) (ho : 0 ≤ (pc : Int) + o) (ha : -2147483648 ≤ a ∧ a ≤ 2147483647) (hb : -2147483648 ≤ b ∧ b ≤ 2147483647) (ht : a = b → t_X d μ (px_tg pc o) lv r g P) (hf : a ≠ b → t_X d μ (pc + 3) lv r g P) : t_X d μ pc lv (oI b :: oI a :: r) g P := by
  by_cases k : a = b
  · exact t_1 hq rfl (pc_eq_t ho ((eq_oI ha hb).mpr k)) (ht k)
  · exact t_1 hq rfl (pc_eq_f ho (fun z => k ((eq_oI ha hb).mp z))) (hf (by omega))
theorem tz_eq (hq : xe_look (xc μ) pc = some (.ifCond .eq o, 3, 0, 0, 0)) (ho : 0 ≤ (pc : Int) + o) (ha : -2147483648 ≤ a ∧ a ≤ 2147483647) (ht : a = 0 → t_X d μ (px_tg pc o) lv r g P) (hf : a ≠ 0 → t_X d μ (pc + 3) lv r g P) : t_X d μ pc lv (oI a :: r) g P := by
  have q := (eq_oI (b := 0) ha ⟨by decide, by decide⟩)
  rw [← z_oI] at q
  by_cases k : a = 0
  · exact t_1 hq rfl (pb_eq_t ho (q.mpr k)) (ht k)
  · exact t_1 hq rfl (pb_eq_f ho (fun z => k (q.mp z))) (hf (by omega))
theorem tb_ne (hq : xe_look (xc μ) pc = some (.if_icmp .ne o, 3, 0, 0, 0)) (ho : 0 ≤ (pc : Int) + o) (ha : -2147483648 ≤ a ∧ a ≤ 2147483647) (hb : -2147483648 ≤ b ∧ b ≤ 2147483647) (ht : a ≠ b → t_X d μ (px_tg pc o) lv r g P) (hf : a = b → t_X d μ (pc + 3) lv r g P) : t_X d μ pc lv (oI b :: oI a :: r) g P := by
  by_cases k : a = b
  · exact t_1 hq rfl (pc_ne_f ho ((eq_oI ha hb).mpr k)) (hf (by omega))
  · exact t_1 hq rfl (pc_ne_t ho (fun z => k ((eq_oI ha hb).mp z))) (ht (by omega))
theorem tz_ne (hq : xe_look (xc μ) pc = some (.ifCond .ne o, 3, 0, 0, 0)) (ho : 0 ≤ (pc : Int) + o) (ha : -2147483648 ≤ a ∧ a ≤ 2147483647) (ht : a ≠ 0 → t_X d μ (px_tg pc o) lv r g P) (hf : a = 0 → t_X d μ (pc + 3) lv r g P) : t_X d μ pc lv (oI a :: r) g P := by
  have q := (eq_oI (b := 0) ha ⟨by decide, by decide⟩)
  rw [← z_oI] at q
  by_cases k : a = 0
  · exact t_1 hq rfl (pb_ne_f ho (q.mpr k)) (hf (by omega))
  · exact t_1 hq rfl (pb_ne_t ho (fun z => k (q.mp z))) (ht (by omega))
theorem tw_f {i : Nat} {e lo hi : Int} (hq : xe_look (xc μ) pc = some (.putfield i, 3, 12, y, z)) (ht : xk_ty 12 y = .int) (hJ : J_ W h0 g) (hW : W.testBit (cn 196 + y) = true) (hg : eG (cn 196 + y) = (lo, hi, [])) (hr : -2147483648 ≤ lo ∧ hi ≤ 2147483647) (he : lo ≤ e ∧ e ≤ hi) (hP : ∀ g1 : pH, J_ W h0 g1 → fF g1 y = e → (∀ u, u ≠ y → fF g1 u = fF g u) → g1.2 = g.2 → t_X d μ (pc + 3) lv r g1 P) : t_X d μ pc lv (oI e :: pvR 196 :: r) g P := by
  have e1 : (Int32.ofInt e).toInt = e := oT (by omega) (by omega)
  refine t_4 hq rfl (pputi el_196 ht) (hP _ (J_puti hJ el_196 ht hW ?_) ?_ (fun u hu => ?_) rfl)
  · rw [e1, hg]
    exact ⟨he.1, he.2, Or.inl rfl⟩
  · show (pu g.1 196 y (Int32.ofInt e) 196 y).toInt = e
    rw [pu_at, e1]
  · show (pu g.1 196 y (Int32.ofInt e) 196 u).toInt = _
    rw [pu_nj _ _ hu]
    rfl
theorem tw_a {K n : Nat} {e j lo hi : Int} (hq : xe_look (xc μ) pc = some (.iastore, 1, x, y, z)) (hJ : J_ W h0 g) (hk : eL[K]? = some (1, n)) (hn : Nat.ble n 10000 = true) (hW : W.testBit (cn K) = true) (hg : eG (cn K) = (lo, hi, [])) (hr : -2147483648 ≤ lo ∧ hi ≤ 2147483647) (hj : 0 ≤ j ∧ j < n) (he : lo ≤ e ∧ e ≤ hi) (hP : ∀ g1 : pH, J_ W h0 g1 → (∀ k, k ≠ K → fA g1 k = fA g k) → fA g1 K j.toNat = e → (∀ u, u ≠ j.toNat → fA g1 K u = fA g K u) → g1.1 = g.1 → t_X d μ (pc + 1) lv r g1 P) : t_X d μ pc lv (oI e :: oI j :: pvR K :: r) g P := by
  have hn := Nat.le_of_ble_eq_true hn
  have e1 : (Int32.ofInt e).toInt = e := oT (by omega) (by omega)
  have e2 : (Int32.ofInt j).toInt = j := oT (by omega) (by omega)
  refine t_4 hq rfl (piast hk (e_clamp (by rw [e2]; exact hj.1) (by rw [e2]; omega))) (hP _ (J_ia hJ hk hW ?_) (fun k hk => ?_) ?_ (fun u hu => ?_) rfl)
  · rw [e1, hg]
    exact ⟨he.1, he.2, Or.inl rfl⟩
  · funext u
    show (pu g.2.2.2.1 K _ (Int32.ofInt e) k u).toInt = _
    rw [pu_ne _ _ hk]
    rfl
  · show (pu g.2.2.2.1 K (Int32.ofInt j).toInt.toNat (Int32.ofInt e) K j.toNat).toInt = e
    rw [e2, pu_at, e1]
  · show (pu g.2.2.2.1 K (Int32.ofInt j).toInt.toNat (Int32.ofInt e) K u).toInt = _
    rw [e2, pu_nj _ _ hu]
    rfl
theorem tw_ax {K n : Nat} {j : Int} {v : Int32} (hq : xe_look (xc μ) pc = some (.iastore, 1, x, y, z)) (hJ : J_ W h0 g) (hk : eL[K]? = some (1, n)) (hn : Nat.ble n 10000 = true) (hW : W.testBit (cn K) = true) (hg : eG (cn K) = (-2147483648, 2147483647, [])) (hj : 0 ≤ j ∧ j < n) (hP : ∀ g1 : pH, J_ W h0 g1 → (∀ k, k ≠ K → fA g1 k = fA g k) → g1.1 = g.1 → t_X d μ (pc + 1) lv r g1 P) : t_X d μ pc lv (.inl v :: oI j :: pvR K :: r) g P := by
  have e0 := i32_b v
  rw [oI_r v]
  exact tw_a hq hJ hk hn hW hg (by decide) hj e0 (fun g1 a1 a2 _ _ a5 => hP g1 a1 a2 a5)
end RV
theorem pq_rt {d x y : Nat} {lv : List (Nat × pv)} {h : pH} {r : List pv} {a b : Int} (ha : -2147483648 ≤ a ∧ a ≤ 2147483647) (hb : 0 < b ∧ b ≤ 2147483647) : ∃ c : Int, (-2147483648 ≤ c ∧ c < b) ∧ px_push eL d none .irem x y lv (oI b :: oI a :: r) h = some (oI c :: r) := by
  have e : (Int32.ofInt a - Int32.ofInt a / Int32.ofInt b * Int32.ofInt b).toInt = a.tmod b := by
    rw [rem_toInt, oT ha.1 ha.2, oT (by omega) hb.2]
  have e2 := i32_b (Int32.ofInt a - Int32.ofInt a / Int32.ofInt b * Int32.ofInt b)
  rw [e] at e2
  refine ⟨a.tmod b, ⟨e2.1, Int.tmod_lt_of_pos a hb.1⟩, ?_⟩
  show (if Int32.ofInt b = 0 then none else some ((.inl (Int32.ofInt a - Int32.ofInt a / Int32.ofInt b * Int32.ofInt b) : pv) :: r)) = _
  rw [if_neg (ne_oI ⟨by omega, hb.2⟩ (by omega)), oI_r, e]
theorem pq_la {d x y k n : Nat} {lv : List (Nat × pv)} {h : pH} {r : List pv} {j : Int32} (hk : eL[k]? = some (3, n)) (hj : 0 ≤ j.toInt ∧ j.toInt < n) : px_push eL d none .laload x y lv (.inl j :: pvR k :: r) h = some (.inr (.inl (h.2.2.2.2.1 k j.toInt.toNat)) :: r) := by
  show px_lald eL h (.inl j :: .inr (.inr (some k)) :: r) = _
  unfold px_lald
  dsimp only
  rw [hk]
  dsimp only
  rw [if_pos rfl, if_neg (e_clamp hj.1 (by omega))]
  rfl
section RW
variable {d μ pc x y z W : Nat} {lv : List (Nat × pv)} {g h0 : pH} {r : List pv} {a b : Int32} {o : Int} {P : Option pv × pH → Prop}
theorem tx_eq (hq : xe_look (xc μ) pc = some (.ifCond .eq o, 3, 0, 0, 0)) (ho : 0 ≤ (pc : Int) + o) (ht : a = 0 → t_X d μ (px_tg pc o) lv r g P) (hf : ¬ a = 0 → t_X d μ (pc + 3) lv r g P) : t_X d μ pc lv (.inl a :: r) g P := by
  by_cases k : a = 0
  · exact t_1 hq rfl (pb_eq_t ho k) (ht k)
  · exact t_1 hq rfl (pb_eq_f ho k) (hf k)
theorem tx_ne (hq : xe_look (xc μ) pc = some (.ifCond .ne o, 3, 0, 0, 0)) (ho : 0 ≤ (pc : Int) + o) (ht : ¬ a = 0 → t_X d μ (px_tg pc o) lv r g P) (hf : a = 0 → t_X d μ (pc + 3) lv r g P) : t_X d μ pc lv (.inl a :: r) g P := by
  by_cases k : a = 0
  · exact t_1 hq rfl (pb_ne_f ho k) (hf k)
  · exact t_1 hq rfl (pb_ne_t ho k) (ht k)
theorem tx_lt (hq : xe_look (xc μ) pc = some (.ifCond .lt o, 3, 0, 0, 0)) (ho : 0 ≤ (pc : Int) + o) (ht : a < 0 → t_X d μ (px_tg pc o) lv r g P) (hf : ¬ a < 0 → t_X d μ (pc + 3) lv r g P) : t_X d μ pc lv (.inl a :: r) g P := by
  by_cases k : a < 0
  · exact t_1 hq rfl (pb_lt_t ho k) (ht k)
  · exact t_1 hq rfl (pb_lt_f ho k) (hf k)
theorem tx_ge (hq : xe_look (xc μ) pc = some (.ifCond .ge o, 3, 0, 0, 0)) (ho : 0 ≤ (pc : Int) + o) (ht : ¬ a < 0 → t_X d μ (px_tg pc o) lv r g P) (hf : a < 0 → t_X d μ (pc + 3) lv r g P) : t_X d μ pc lv (.inl a :: r) g P := by
  by_cases k : a < 0
  · exact t_1 hq rfl (pb_ge_f ho k) (hf k)
  · exact t_1 hq rfl (pb_ge_t ho k) (ht k)
theorem tx_gt (hq : xe_look (xc μ) pc = some (.ifCond .gt o, 3, 0, 0, 0)) (ho : 0 ≤ (pc : Int) + o) (ht : 0 < a → t_X d μ (px_tg pc o) lv r g P) (hf : ¬ 0 < a → t_X d μ (pc + 3) lv r g P) : t_X d μ pc lv (.inl a :: r) g P := by
  by_cases k : 0 < a
  · exact t_1 hq rfl (pb_gt_t ho k) (ht k)
  · exact t_1 hq rfl (pb_gt_f ho k) (hf k)
theorem tx_le (hq : xe_look (xc μ) pc = some (.ifCond .le o, 3, 0, 0, 0)) (ho : 0 ≤ (pc : Int) + o) (ht : ¬ 0 < a → t_X d μ (px_tg pc o) lv r g P) (hf : 0 < a → t_X d μ (pc + 3) lv r g P) : t_X d μ pc lv (.inl a :: r) g P := by
  by_cases k : 0 < a
  · exact t_1 hq rfl (pb_le_f ho k) (hf k)
  · exact t_1 hq rfl (pb_le_t ho k) (ht k)
theorem tw_fx {i y z : Nat} {v : Int32} (hq : xe_look (xc μ) pc = some (.putfield i, 3, 12, y, z)) (ht : xk_ty 12 y = .int) (hJ : J_ W h0 g) (hW : W.testBit (cn 196 + y) = true) (hg : eG (cn 196 + y) = (-2147483648, 2147483647, [])) (hP : ∀ g1 : pH, J_ W h0 g1 → (∀ u, u ≠ y → fF g1 u = fF g u) → g1.2 = g.2 → t_X d μ (pc + 3) lv r g1 P) : t_X d μ pc lv (.inl v :: pvR 196 :: r) g P := by
  rw [oI_r v]
  exact tw_f hq ht hJ hW hg (by decide) (i32_b v) (fun g1 b1 _ b3 b4 => hP g1 b1 b3 b4)
theorem tw_l {K n : Nat} {v : Int64} {j : Int} (hq : xe_look (xc μ) pc = some (.lastore, 1, x, y, z)) (hJ : J_ W h0 g) (hk : eL[K]? = some (3, n)) (hn : Nat.ble n 10000 = true) (hW : W.testBit (cn K) = true) (hg : eG (cn K) = (-9223372036854775808, 9223372036854775807, [])) (hj : 0 ≤ j ∧ j < n) (hP : ∀ g1 : pH, J_ W h0 g1 → g1.1 = g.1 → g1.2.2.2.1 = g.2.2.2.1 → g1.2.2.2.2.1 K j.toNat = v → (∀ u, u ≠ j.toNat → g1.2.2.2.2.1 K u = g.2.2.2.2.1 K u) → t_X d μ (pc + 1) lv r g1 P) : t_X d μ pc lv (.inr (.inl v) :: oI j :: pvR K :: r) g P := by
  have hn := Nat.le_of_ble_eq_true hn
  have e2 : (Int32.ofInt j).toInt = j := oT (by omega) (by omega)
  have hc : ¬ (Int32.ofInt j < 0 ∨ n ≤ (Int32.ofInt j).toNatClampNeg) := e_clamp (by rw [e2]; exact hj.1) (by rw [e2]; omega)
  have h1 : px_wf .lastore eL d x y (.inr (.inl v) :: oI j :: pvR K :: r) g = some (r, (g.1, g.2.1, g.2.2.1, g.2.2.2.1, pu g.2.2.2.2.1 K (Int32.ofInt j).toNatClampNeg v, g.2.2.2.2.2)) := by
    show px_last eL g (.inr (.inl v) :: oI j :: pvR K :: r) = _
    unfold px_last
    dsimp only
    rw [hk]
    dsimp only
    rw [if_pos rfl, if_neg hc]
  have e3 : (Int32.ofInt j).toNatClampNeg = j.toNat := congrArg Int.toNat e2
  refine t_4 hq rfl h1 (hP _ ⟨g_I_l hJ.1 (by rw [hg]; exact ok_full64 v) hk, w_a_M w_a_l hJ.2 hW⟩ rfl rfl ?_ (fun u hu => ?_))
  · show pu g.2.2.2.2.1 K (Int32.ofInt j).toNatClampNeg v K j.toNat = v
    rw [e3, pu_at]
  · show pu g.2.2.2.2.1 K (Int32.ofInt j).toNatClampNeg v K u = _
    rw [e3, pu_nj _ _ hu]
end RW
theorem ff_2 : (eG (cn 196 + 2)).2.2 = [198] := by decide +kernel
theorem el_197 : eL[197]? = some (1, 42) := by decide +kernel
theorem ar_2 {d i : Nat} {lv : List (Nat × pv)} {r : List pv} {g : pH} (hG : g_I eG g) : px_push eL d none (.getfield i) 12 2 lv (pvR 196 :: r) g = some (pvR 197 :: r) := pget el_196 (gI_r (r := 197) hG el_196 (Nat.le_of_ble_eq_true rfl) (y := 2) rfl ff_2)
theorem ff_11 : (eG (cn 196 + 11)).2.2 = [207] := by decide +kernel
theorem el_206 : eL[206]? = some (1, 24) := by decide +kernel
theorem ar_11 {d i : Nat} {lv : List (Nat × pv)} {r : List pv} {g : pH} (hG : g_I eG g) : px_push eL d none (.getfield i) 12 11 lv (pvR 196 :: r) g = some (pvR 206 :: r) := pget el_196 (gI_r (r := 206) hG el_196 (Nat.le_of_ble_eq_true rfl) (y := 11) rfl ff_11)
theorem ff_12 : (eG (cn 196 + 12)).2.2 = [208] := by decide +kernel
theorem el_207 : eL[207]? = some (1, 24) := by decide +kernel
theorem ar_12 {d i : Nat} {lv : List (Nat × pv)} {r : List pv} {g : pH} (hG : g_I eG g) : px_push eL d none (.getfield i) 12 12 lv (pvR 196 :: r) g = some (pvR 207 :: r) := pget el_196 (gI_r (r := 207) hG el_196 (Nat.le_of_ble_eq_true rfl) (y := 12) rfl ff_12)
theorem ff_16 : (eG (cn 196 + 16)).2.2 = [212] := by decide +kernel
theorem ar_16 {d i : Nat} {lv : List (Nat × pv)} {r : List pv} {g : pH} (hG : g_I eG g) : px_push eL d none (.getfield i) 12 16 lv (pvR 196 :: r) g = some (pvR 211 :: r) := pget el_196 (gI_r (r := 211) hG el_196 (Nat.le_of_ble_eq_true rfl) (y := 16) rfl ff_16)
theorem ff_27 : (eG (cn 196 + 27)).2.2 = [213] := by decide +kernel
theorem el_212 : eL[212]? = some (1, 60) := by decide +kernel
theorem ar_27 {d i : Nat} {lv : List (Nat × pv)} {r : List pv} {g : pH} (hG : g_I eG g) : px_push eL d none (.getfield i) 12 27 lv (pvR 196 :: r) g = some (pvR 212 :: r) := pget el_196 (gI_r (r := 212) hG el_196 (Nat.le_of_ble_eq_true rfl) (y := 27) rfl ff_27)
theorem ff_28 : (eG (cn 196 + 28)).2.2 = [214] := by decide +kernel
theorem el_213 : eL[213]? = some (1, 60) := by decide +kernel
theorem ar_28 {d i : Nat} {lv : List (Nat × pv)} {r : List pv} {g : pH} (hG : g_I eG g) : px_push eL d none (.getfield i) 12 28 lv (pvR 196 :: r) g = some (pvR 213 :: r) := pget el_196 (gI_r (r := 213) hG el_196 (Nat.le_of_ble_eq_true rfl) (y := 28) rfl ff_28)
theorem ff_29 : (eG (cn 196 + 29)).2.2 = [215] := by decide +kernel
theorem el_214 : eL[214]? = some (1, 4) := by decide +kernel
theorem ar_29 {d i : Nat} {lv : List (Nat × pv)} {r : List pv} {g : pH} (hG : g_I eG g) : px_push eL d none (.getfield i) 12 29 lv (pvR 196 :: r) g = some (pvR 214 :: r) := pget el_196 (gI_r (r := 214) hG el_196 (Nat.le_of_ble_eq_true rfl) (y := 29) rfl ff_29)
theorem ff_30 : (eG (cn 196 + 30)).2.2 = [216] := by decide +kernel
theorem el_215 : eL[215]? = some (1, 4) := by decide +kernel
theorem ar_30 {d i : Nat} {lv : List (Nat × pv)} {r : List pv} {g : pH} (hG : g_I eG g) : px_push eL d none (.getfield i) 12 30 lv (pvR 196 :: r) g = some (pvR 215 :: r) := pget el_196 (gI_r (r := 215) hG el_196 (Nat.le_of_ble_eq_true rfl) (y := 30) rfl ff_30)
theorem ff_36 : (eG (cn 196 + 36)).2.2 = [217] := by decide +kernel
theorem el_216 : eL[216]? = some (1, 260) := by decide +kernel
theorem ar_36 {d i : Nat} {lv : List (Nat × pv)} {r : List pv} {g : pH} (hG : g_I eG g) : px_push eL d none (.getfield i) 12 36 lv (pvR 196 :: r) g = some (pvR 216 :: r) := pget el_196 (gI_r (r := 216) hG el_196 (Nat.le_of_ble_eq_true rfl) (y := 36) rfl ff_36)
theorem ff_37 : (eG (cn 196 + 37)).2.2 = [218] := by decide +kernel
theorem el_217 : eL[217]? = some (1, 260) := by decide +kernel
theorem ar_37 {d i : Nat} {lv : List (Nat × pv)} {r : List pv} {g : pH} (hG : g_I eG g) : px_push eL d none (.getfield i) 12 37 lv (pvR 196 :: r) g = some (pvR 217 :: r) := pget el_196 (gI_r (r := 217) hG el_196 (Nat.le_of_ble_eq_true rfl) (y := 37) rfl ff_37)
theorem ff_38 : (eG (cn 196 + 38)).2.2 = [219] := by decide +kernel
theorem el_218 : eL[218]? = some (1, 16) := by decide +kernel
theorem ar_38 {d i : Nat} {lv : List (Nat × pv)} {r : List pv} {g : pH} (hG : g_I eG g) : px_push eL d none (.getfield i) 12 38 lv (pvR 196 :: r) g = some (pvR 218 :: r) := pget el_196 (gI_r (r := 218) hG el_196 (Nat.le_of_ble_eq_true rfl) (y := 38) rfl ff_38)
theorem ff_39 : (eG (cn 196 + 39)).2.2 = [220] := by decide +kernel
theorem el_219 : eL[219]? = some (1, 16) := by decide +kernel
theorem ar_39 {d i : Nat} {lv : List (Nat × pv)} {r : List pv} {g : pH} (hG : g_I eG g) : px_push eL d none (.getfield i) 12 39 lv (pvR 196 :: r) g = some (pvR 219 :: r) := pget el_196 (gI_r (r := 219) hG el_196 (Nat.le_of_ble_eq_true rfl) (y := 39) rfl ff_39)
theorem ff_40 : (eG (cn 196 + 40)).2.2 = [221] := by decide +kernel
theorem el_220 : eL[220]? = some (1, 16) := by decide +kernel
theorem ar_40 {d i : Nat} {lv : List (Nat × pv)} {r : List pv} {g : pH} (hG : g_I eG g) : px_push eL d none (.getfield i) 12 40 lv (pvR 196 :: r) g = some (pvR 220 :: r) := pget el_196 (gI_r (r := 220) hG el_196 (Nat.le_of_ble_eq_true rfl) (y := 40) rfl ff_40)
theorem ff_41 : (eG (cn 196 + 41)).2.2 = [222] := by decide +kernel
theorem el_221 : eL[221]? = some (1, 16) := by decide +kernel
theorem ar_41 {d i : Nat} {lv : List (Nat × pv)} {r : List pv} {g : pH} (hG : g_I eG g) : px_push eL d none (.getfield i) 12 41 lv (pvR 196 :: r) g = some (pvR 221 :: r) := pget el_196 (gI_r (r := 221) hG el_196 (Nat.le_of_ble_eq_true rfl) (y := 41) rfl ff_41)
theorem ff_42 : (eG (cn 196 + 42)).2.2 = [223] := by decide +kernel
theorem el_222 : eL[222]? = some (1, 260) := by decide +kernel
theorem ar_42 {d i : Nat} {lv : List (Nat × pv)} {r : List pv} {g : pH} (hG : g_I eG g) : px_push eL d none (.getfield i) 12 42 lv (pvR 196 :: r) g = some (pvR 222 :: r) := pget el_196 (gI_r (r := 222) hG el_196 (Nat.le_of_ble_eq_true rfl) (y := 42) rfl ff_42)
theorem ff_43 : (eG (cn 196 + 43)).2.2 = [224] := by decide +kernel
theorem el_223 : eL[223]? = some (1, 16) := by decide +kernel
theorem ar_43 {d i : Nat} {lv : List (Nat × pv)} {r : List pv} {g : pH} (hG : g_I eG g) : px_push eL d none (.getfield i) 12 43 lv (pvR 196 :: r) g = some (pvR 223 :: r) := pget el_196 (gI_r (r := 223) hG el_196 (Nat.le_of_ble_eq_true rfl) (y := 43) rfl ff_43)
theorem ff_44 : (eG (cn 196 + 44)).2.2 = [225] := by decide +kernel
theorem el_224 : eL[224]? = some (1, 16) := by decide +kernel
theorem ar_44 {d i : Nat} {lv : List (Nat × pv)} {r : List pv} {g : pH} (hG : g_I eG g) : px_push eL d none (.getfield i) 12 44 lv (pvR 196 :: r) g = some (pvR 224 :: r) := pget el_196 (gI_r (r := 224) hG el_196 (Nat.le_of_ble_eq_true rfl) (y := 44) rfl ff_44)
theorem ff_45 : (eG (cn 196 + 45)).2.2 = [226] := by decide +kernel
theorem el_225 : eL[225]? = some (1, 16) := by decide +kernel
theorem ar_45 {d i : Nat} {lv : List (Nat × pv)} {r : List pv} {g : pH} (hG : g_I eG g) : px_push eL d none (.getfield i) 12 45 lv (pvR 196 :: r) g = some (pvR 225 :: r) := pget el_196 (gI_r (r := 225) hG el_196 (Nat.le_of_ble_eq_true rfl) (y := 45) rfl ff_45)
theorem ff_46 : (eG (cn 196 + 46)).2.2 = [227] := by decide +kernel
theorem el_226 : eL[226]? = some (1, 16) := by decide +kernel
theorem ar_46 {d i : Nat} {lv : List (Nat × pv)} {r : List pv} {g : pH} (hG : g_I eG g) : px_push eL d none (.getfield i) 12 46 lv (pvR 196 :: r) g = some (pvR 226 :: r) := pget el_196 (gI_r (r := 226) hG el_196 (Nat.le_of_ble_eq_true rfl) (y := 46) rfl ff_46)
theorem ff_47 : (eG (cn 196 + 47)).2.2 = [228] := by decide +kernel
theorem el_227 : eL[227]? = some (1, 260) := by decide +kernel
theorem ar_47 {d i : Nat} {lv : List (Nat × pv)} {r : List pv} {g : pH} (hG : g_I eG g) : px_push eL d none (.getfield i) 12 47 lv (pvR 196 :: r) g = some (pvR 227 :: r) := pget el_196 (gI_r (r := 227) hG el_196 (Nat.le_of_ble_eq_true rfl) (y := 47) rfl ff_47)
theorem ff_48 : (eG (cn 196 + 48)).2.2 = [229] := by decide +kernel
theorem ar_48 {d i : Nat} {lv : List (Nat × pv)} {r : List pv} {g : pH} (hG : g_I eG g) : px_push eL d none (.getfield i) 12 48 lv (pvR 196 :: r) g = some (pvR 228 :: r) := pget el_196 (gI_r (r := 228) hG el_196 (Nat.le_of_ble_eq_true rfl) (y := 48) rfl ff_48)
theorem ff_55 : (eG (cn 196 + 55)).2.2 = [230] := by decide +kernel
theorem ar_55 {d i : Nat} {lv : List (Nat × pv)} {r : List pv} {g : pH} (hG : g_I eG g) : px_push eL d none (.getfield i) 12 55 lv (pvR 196 :: r) g = some (pvR 229 :: r) := pget el_196 (gI_r (r := 229) hG el_196 (Nat.le_of_ble_eq_true rfl) (y := 55) rfl ff_55)
theorem ff_68 : (eG (cn 196 + 68)).2.2 = [239] := by decide +kernel
theorem ar_68 {d i : Nat} {lv : List (Nat × pv)} {r : List pv} {g : pH} (hG : g_I eG g) : px_push eL d none (.getfield i) 12 68 lv (pvR 196 :: r) g = some (pvR 238 :: r) := pget el_196 (gI_r (r := 238) hG el_196 (Nat.le_of_ble_eq_true rfl) (y := 68) rfl ff_68)
theorem ff_69 : (eG (cn 196 + 69)).2.2 = [240] := by decide +kernel
theorem el_239 : eL[239]? = some (1, 12) := by decide +kernel
theorem ar_69 {d i : Nat} {lv : List (Nat × pv)} {r : List pv} {g : pH} (hG : g_I eG g) : px_push eL d none (.getfield i) 12 69 lv (pvR 196 :: r) g = some (pvR 239 :: r) := pget el_196 (gI_r (r := 239) hG el_196 (Nat.le_of_ble_eq_true rfl) (y := 69) rfl ff_69)
theorem ff_70 : (eG (cn 196 + 70)).2.2 = [241] := by decide +kernel
theorem el_240 : eL[240]? = some (3, 4096) := by decide +kernel
theorem ar_70 {d i : Nat} {lv : List (Nat × pv)} {r : List pv} {g : pH} (hG : g_I eG g) : px_push eL d none (.getfield i) 12 70 lv (pvR 196 :: r) g = some (pvR 240 :: r) := pget el_196 (gI_r (r := 240) hG el_196 (Nat.le_of_ble_eq_true rfl) (y := 70) rfl ff_70)
theorem gb_f {y : Nat} {lo hi : Int} {g : pH} (hG : g_I eG g) (ht : xk_ty 12 y = .int) (hy : Nat.ble (y + 1) (pnf 12) = true) (hg : eG (cn 196 + y) = (lo, hi, [])) : lo ≤ fF g y ∧ fF g y ≤ hi := by
  have := gI_i hG el_196 (Nat.le_of_ble_eq_true hy) ht
  rw [hg] at this
  exact ⟨this.1, this.2.1⟩
theorem gb_a {K n j : Nat} {lo hi : Int} {g : pH} (hG : g_I eG g) (hk : eL[K]? = some (1, n)) (hj : j < n) (hg : eG (cn K) = (lo, hi, [])) : lo ≤ fA g K j ∧ fA g K j ≤ hi := by
  have := gI_ia hG hk hj
  rw [hg] at this
  exact ⟨this.1, this.2.1⟩
