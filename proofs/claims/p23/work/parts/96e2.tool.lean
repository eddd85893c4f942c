/-! the tie: reads and writes of any object -/
def cF (h : pH) (k y : Nat) : Int := (h.1 k y).toInt
theorem cF_b (h : pH) (k y : Nat) : -2147483648 ≤ cF h k y ∧ cF h k y ≤ 2147483647 := i32_b _
theorem pFz {h : pH} {x k y : Nat} (ht : xk_ty x y = .boolean) : pF h x k y = .inl (h.1 k y) := by
  unfold pF
  rw [ht]
theorem pq_cf {d i x y k : Nat} {lv : List (Nat × pv)} {h : pH} {r : List pv} (hk : eL[k]? = some (0, x)) (ht : xk_ty x y = .int) : px_push eL d none (.getfield i) x y lv (pvR k :: r) h = some (oI (cF h k y) :: r) := by
  rw [pget hk (pFi ht), oI_r]
  rfl
theorem pq_cz {d i x y k : Nat} {lv : List (Nat × pv)} {h : pH} {r : List pv} (hk : eL[k]? = some (0, x)) (ht : xk_ty x y = .boolean) : px_push eL d none (.getfield i) x y lv (pvR k :: r) h = some (oI (cF h k y) :: r) := by
  rw [pget hk (pFz ht), oI_r]
  rfl
theorem cb_i {h : pH} {k x y : Nat} {lo hi : Int} (hG : g_I eG h) (hk : eL[k]? = some (0, x)) (hy : y < pnf x) (ht : xk_ty x y = .int) (hg : eG (cn k + y) = (lo, hi, [])) : lo ≤ cF h k y ∧ cF h k y ≤ hi := by
  have h1 := gI_i hG hk hy ht
  rw [hg] at h1
  exact ⟨h1.1, h1.2.1⟩
theorem cb_z {h : pH} {k x y : Nat} {lo hi : Int} (hG : g_I eG h) (hk : eL[k]? = some (0, x)) (hy : y < pnf x) (ht : xk_ty x y = .boolean) (hg : eG (cn k + y) = (lo, hi, [])) : lo ≤ cF h k y ∧ cF h k y ≤ hi := by
  have h1 := (hG k (0, x) hk).1 rfl y hy
  rw [pFz ht, hg] at h1
  exact ⟨h1.1, h1.2.1⟩
theorem pputz {d i x y k : Nat} {h : pH} {r : List pv} {n : Int32} (hk : eL[k]? = some (0, x)) (ht : xk_ty x y = .boolean) (hn : n = 0 ∨ n = 1) : px_wf (.putfield i) eL d x y (.inl n :: .inr (.inr (some k)) :: r) h = some (r, (pu h.1 k y n, h.2)) := by
  show px_put eL h x y (.inl n :: .inr (.inr (some k)) :: r) = _
  unfold px_put
  dsimp only
  rw [if_pos hk, ht]
  dsimp only
  rw [if_pos hn]
theorem J_putz {W : Nat} {h0 h : pH} {k x y : Nat} {n : Int32} (hj : J_ W h0 h) (hk : eL[k]? = some (0, x)) (ht : xk_ty x y = .boolean) (hW : W.testBit (cn k + y) = true) (hv : ok_v n.toInt (eG (cn k + y))) : J_ W h0 (pu h.1 k y n, h.2) := by
  have hw : w_f h (pu h.1 k y n, h.2) k y := ⟨fun k' y' hn => ⟨if_neg hn, rfl, rfl⟩, rfl⟩
  refine ⟨g_I_f hj.1 hw hk ?_, w_f_M hw hj.2 hW⟩
  rw [pFz ht]
  show ok_v (pu h.1 k y n k y).toInt _
  rw [pu_at]
  exact hv
theorem pc_at {f : pH} {k y : Nat} {e : Int} (h0 : -2147483648 ≤ e) (h1 : e ≤ 2147483647) : cF (pu f.1 k y (Int32.ofInt e), f.2) k y = e := by
  show (pu f.1 k y (Int32.ofInt e) k y).toInt = e
  rw [pu_at, oT h0 h1]
theorem pc_ne {f : pH} {k y a b : Nat} {v : Int32} (h : ¬ (a = k ∧ b = y)) : cF (pu f.1 k y v, f.2) a b = cF f a b := congrArg Int32.toInt (if_neg h)
section TW
variable {d μ pc W : Nat} {lv : List (Nat × pv)} {r : List pv} {h0 g : pH} {P : Option pv × pH → Prop}
theorem tw_c {i x k y z : Nat} {e lo hi : Int} (hq : xe_look (xc μ) pc = some (.putfield i, 3, x, y, z)) (hk : eL[k]? = some (0, x)) (ht : xk_ty x y = .int) (hJ : J_ W h0 g) (hW : W.testBit (cn k + y) = true) (hg : eG (cn k + y) = (lo, hi, [])) (hr : -2147483648 ≤ lo ∧ hi ≤ 2147483647) (he : lo ≤ e ∧ e ≤ hi) (hP : ∀ g1 : pH, J_ W h0 g1 → g1 = (pu g.1 k y (Int32.ofInt e), g.2) → t_X d μ (pc + 3) lv r g1 P) : t_X d μ pc lv (oI e :: pvR k :: r) g P := by
  have e1 : (Int32.ofInt e).toInt = e := oT (by omega) (by omega)
  refine t_4 hq rfl (pputi hk ht) (hP _ (J_puti hJ hk ht hW ?_) rfl)
  rw [e1, hg]
  exact ⟨he.1, he.2, Or.inl rfl⟩
theorem tw_z {i x k y z : Nat} {e lo hi : Int} (hq : xe_look (xc μ) pc = some (.putfield i, 3, x, y, z)) (hk : eL[k]? = some (0, x)) (ht : xk_ty x y = .boolean) (hJ : J_ W h0 g) (hW : W.testBit (cn k + y) = true) (hg : eG (cn k + y) = (lo, hi, [])) (hr : -2147483648 ≤ lo ∧ hi ≤ 2147483647) (he : lo ≤ e ∧ e ≤ hi) (hb : e = 0 ∨ e = 1) (hP : ∀ g1 : pH, J_ W h0 g1 → g1 = (pu g.1 k y (Int32.ofInt e), g.2) → t_X d μ (pc + 3) lv r g1 P) : t_X d μ pc lv (oI e :: pvR k :: r) g P := by
  have e1 : (Int32.ofInt e).toInt = e := oT (by omega) (by omega)
  refine t_4 hq rfl (pputz hk ht ?_) (hP _ (J_putz hJ hk ht hW ?_) rfl)
  · rcases hb with rfl | rfl
    · exact Or.inl rfl
    · exact Or.inr rfl
  · rw [e1, hg]
    exact ⟨he.1, he.2, Or.inl rfl⟩
theorem tw_i {x y z K n : Nat} {j lo hi : Int} {v : Int32} (hq : xe_look (xc μ) pc = some (.iastore, 1, x, y, z)) (hJ : J_ W h0 g) (hk : eL[K]? = some (1, n)) (hn : Nat.ble n 10000 = true) (hW : W.testBit (cn K) = true) (hg : eG (cn K) = (lo, hi, [])) (hj : 0 ≤ j ∧ j < n) (he : lo ≤ v.toInt ∧ v.toInt ≤ hi) (hP : ∀ g1 : pH, J_ W h0 g1 → g1 = (g.1, g.2.1, g.2.2.1, pu g.2.2.2.1 K j.toNat v, g.2.2.2.2) → t_X d μ (pc + 1) lv r g1 P) : t_X d μ pc lv (.inl v :: oI j :: pvR K :: r) g P := by
  have hn := Nat.le_of_ble_eq_true hn
  have e2 : (Int32.ofInt j).toInt = j := oT (by omega) (by omega)
  have e3 : (Int32.ofInt j).toNatClampNeg = j.toNat := by
    show (Int32.ofInt j).toInt.toNat = _
    rw [e2]
  refine t_4 hq rfl (piast hk (e_clamp (by rw [e2]; exact hj.1) (by rw [e2]; omega))) (hP _ (J_ia hJ hk hW ?_) ?_)
  · rw [hg]
    exact ⟨he.1, he.2, Or.inl rfl⟩
  · rw [e3]
theorem pbast {d x y k n : Nat} {h : pH} {r : List pv} {v j : Int32} (hk : eL[k]? = some (2, n)) (hi : ¬ (j < 0 ∨ n ≤ j.toNatClampNeg)) : px_wf .bastore eL d x y (.inl v :: .inl j :: .inr (.inr (some k)) :: r) h = some (r, (h.1, h.2.1, h.2.2.1, pu h.2.2.2.1 k j.toNatClampNeg v.toInt8.toInt32, h.2.2.2.2)) := by
  show px_bast eL h (.inl v :: .inl j :: .inr (.inr (some k)) :: r) = _
  unfold px_bast
  dsimp only
  rw [hk]
  dsimp only
  rw [if_pos rfl, if_neg hi]
theorem J_by {W : Nat} {h0 h : pH} {k n j : Nat} {z : Int32} (hj : J_ W h0 h) (hk : eL[k]? = some (2, n)) (hW : W.testBit (cn k) = true) (hv : ok_v z.toInt (eG (cn k))) : J_ W h0 (h.1, h.2.1, h.2.2.1, pu h.2.2.2.1 k j z, h.2.2.2.2) := ⟨g_I_i hj.1 hv hk (Or.inr rfl), w_a_M w_a_i hj.2 hW⟩
theorem by_b (v : Int32) : -128 ≤ v.toInt8.toInt32.toInt ∧ v.toInt8.toInt32.toInt ≤ 127 := by
  rw [Int8.toInt_toInt32]
  have h1 := v.toInt8.le_toInt
  have h2 := v.toInt8.toInt_lt
  omega
theorem tw_y {x y z K n : Nat} {j : Int} {v : Int32} (hq : xe_look (xc μ) pc = some (.bastore, 1, x, y, z)) (hJ : J_ W h0 g) (hk : eL[K]? = some (2, n)) (hn : Nat.ble n 10000 = true) (hW : W.testBit (cn K) = true) (hg : eG (cn K) = (-144, 143, [])) (hj : 0 ≤ j ∧ j < n) (hP : ∀ g1 : pH, J_ W h0 g1 → g1 = (g.1, g.2.1, g.2.2.1, pu g.2.2.2.1 K j.toNat v.toInt8.toInt32, g.2.2.2.2) → t_X d μ (pc + 1) lv r g1 P) : t_X d μ pc lv (.inl v :: oI j :: pvR K :: r) g P := by
  have hn := Nat.le_of_ble_eq_true hn
  have e2 : (Int32.ofInt j).toInt = j := oT (by omega) (by omega)
  have e3 : (Int32.ofInt j).toNatClampNeg = j.toNat := by
    show (Int32.ofInt j).toInt.toNat = _
    rw [e2]
  refine t_4 hq rfl (pbast hk (e_clamp (by rw [e2]; exact hj.1) (by rw [e2]; omega))) (hP _ (J_by hJ hk hW ?_) ?_)
  · rw [hg]
    exact ⟨by have := (by_b v).1; show -144 ≤ _; omega, by have := (by_b v).2; show _ ≤ 143; omega, Or.inl rfl⟩
  · rw [e3]
end TW
/-- slides rows and slides: where they stand -/
def rS (g : pH) : Prop := ∀ j, j < 32 → g.2.2.2.2.2 3 j = some (4 + 2 * j) ∧ g.2.2.2.2.2 77 j = some (78 + 2 * j)
theorem el_s4 {m : Nat} (h : m < 32) : eL[4 + 2 * m]? = some (0, 7) := by
  have : ∀ m, m < 32 → eL[4 + 2 * m]? = some (0, 7) := by decide +kernel
  exact this m h
theorem el_s78 {m : Nat} (h : m < 32) : eL[78 + 2 * m]? = some (0, 7) := by
  have : ∀ m, m < 32 → eL[78 + 2 * m]? = some (0, 7) := by decide +kernel
  exact this m h
theorem el_3 : eL[3]? = some (4, 32) ∧ eL[77]? = some (4, 32) := by decide +kernel
theorem paald {d x y k n : Nat} {lv : List (Nat × pv)} {h : pH} {r : List pv} {j : Int} (hk : eL[k]? = some (4, n)) (hn : Nat.ble n 10000 = true) (hj : 0 ≤ j ∧ j < n) {q : Option Nat} (hq : h.2.2.2.2.2 k j.toNat = q) : px_push eL d none .aaload x y lv (oI j :: .inr (.inr (some k)) :: r) h = some (.inr (.inr q) :: r) := by
  have hn := Nat.le_of_ble_eq_true hn
  have e2 : (Int32.ofInt j).toInt = j := oT (by omega) (by omega)
  have e3 : (Int32.ofInt j).toNatClampNeg = j.toNat := by
    show (Int32.ofInt j).toInt.toNat = _
    rw [e2]
  show px_aald eL h (.inl (Int32.ofInt j) :: .inr (.inr (some k)) :: r) = _
  unfold px_aald
  dsimp only
  rw [hk]
  dsimp only
  rw [if_pos rfl, if_neg (e_clamp (by rw [e2]; exact hj.1) (by rw [e2]; omega)), e3, hq]
theorem pq_a3 {d x y : Nat} {lv : List (Nat × pv)} {h : pH} {r : List pv} (hS : rS h) {m : Nat} {j : Int} (hm : m < 32) (hj : j = m) : px_push eL d none .aaload x y lv (oI j :: pvR 3 :: r) h = some (pvR (4 + 2 * m) :: r) := paald el_3.1 rfl ⟨by omega, by omega⟩ (by rw [hj]; exact (hS m hm).1)
theorem pq_a77 {d x y : Nat} {lv : List (Nat × pv)} {h : pH} {r : List pv} (hS : rS h) {m : Nat} {j : Int} (hm : m < 32) (hj : j = m) : px_push eL d none .aaload x y lv (oI j :: pvR 77 :: r) h = some (pvR (78 + 2 * m) :: r) := paald el_3.2 rfl ⟨by omega, by omega⟩ (by rw [hj]; exact (hS m hm).2)
section PN
variable {pc k : Nat} {o : Int} {r : List pv}
theorem pn_nt (ho : 0 ≤ (pc : Int) + o) : px_bf (.ifnull o) pc (.inr (.inr none) :: r) = some (px_tg pc o, r) := if_pos ho
theorem pn_nf : px_bf (.ifnull o) pc (.inr (.inr (some k)) :: r) = some (pc + 3, r) := rfl
theorem pn_ot (ho : 0 ≤ (pc : Int) + o) : px_bf (.ifnonnull o) pc (.inr (.inr (some k)) :: r) = some (px_tg pc o, r) := if_pos ho
theorem pn_of : px_bf (.ifnonnull o) pc (.inr (.inr none) :: r) = some (pc + 3, r) := rfl
end PN
