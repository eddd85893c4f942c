section
/-! the tie: states by what their cells hold -/
def sE (ks : List (Nat × Nat)) (as : List Nat) (W : Nat) (g0 g : pH) (vs : List Int) (cs : List (Nat → Int)) : Prop := J_ W g0 g ∧ (∀ i, i < ks.length → cF g (ks.getD i (0, 0)).1 (ks.getD i (0, 0)).2 = vs.getD i 0) ∧ ∀ i, i < as.length → fA g (as.getD i 0) = cs.getD i (fun _ => 0)
def sEf (ks : List (Nat × Nat)) (k y n : Nat) : Bool := (List.range ks.length).all (fun j => j == n || !((ks.getD j (0, 0)).1 == k && (ks.getD j (0, 0)).2 == y))
def sEa (as : List Nat) (k n : Nat) : Bool := (List.range as.length).all (fun j => j == n || !(as.getD j 0 == k))
theorem ls_set {α : Type} {l : List α} {n i : Nat} {a b : α} (hn : n < l.length) : (l.set n a).getD i b = if i = n then a else l.getD i b := by
  rw [List.getD_eq_getElem?_getD, List.getD_eq_getElem?_getD, List.getElem?_set]
  by_cases q : n = i
  · subst q
    rw [if_pos rfl, if_pos hn, if_pos rfl]
    rfl
  · rw [if_neg q, if_neg (fun z => q z.symm)]
section SE
variable {ks : List (Nat × Nat)} {as : List Nat} {W : Nat} {g0 g g1 : pH} {vs : List Int} {cs : List (Nat → Int)}
theorem S_J (h : sE ks as W g0 g vs cs) : J_ W g0 g := h.1
theorem S_f (h : sE ks as W g0 g vs cs) (i : Nat) (hi : i < ks.length) : cF g (ks.getD i (0, 0)).1 (ks.getD i (0, 0)).2 = vs.getD i 0 := h.2.1 i hi
theorem S_a (h : sE ks as W g0 g vs cs) (i : Nat) (hi : i < as.length) : fA g (as.getD i 0) = cs.getD i (fun _ => 0) := h.2.2 i hi
theorem sEf_o {k y n : Nat} (hd : sEf ks k y n = true) {j : Nat} (hj : j < ks.length) (hn : j ≠ n) : ¬ ((ks.getD j (0, 0)).1 = k ∧ (ks.getD j (0, 0)).2 = y) := fun z => by
  have h := List.all_eq_true.mp hd j (List.mem_range.mpr hj)
  rw [z.1, z.2, beq_self_eq_true, beq_self_eq_true, beq_false_of_ne hn] at h
  cases h
theorem sEa_o {k n : Nat} (hd : sEa as k n = true) {j : Nat} (hj : j < as.length) (hn : j ≠ n) : as.getD j 0 ≠ k := fun z => by
  have h := List.all_eq_true.mp hd j (List.mem_range.mpr hj)
  rw [z, beq_self_eq_true, beq_false_of_ne hn] at h
  cases h
theorem S_wf {k y n : Nat} {e : Int} (h : sE ks as W g0 g vs cs) (hn : n < vs.length) (hk : ks.getD n (0, 0) = (k, y)) (hd : sEf ks k y n = true) (hJ : J_ W g0 g1) (he : g1 = (pu g.1 k y (Int32.ofInt e), g.2)) (h0 : -2147483648 ≤ e) (h1 : e ≤ 2147483647) : sE ks as W g0 g1 (vs.set n e) cs := by
  subst he
  refine ⟨hJ, fun i hi => ?_, fun i hi => h.2.2 i hi⟩
  rw [ls_set hn]
  by_cases q : i = n
  · subst q
    rw [if_pos rfl, hk]
    exact pc_at h0 h1
  · rw [if_neg q, pc_ne (sEf_o hd hi q)]
    exact h.2.1 i hi
theorem S_wf0 {k y : Nat} {v : Int32} (h : sE ks as W g0 g vs cs) (hd : sEf ks k y ks.length = true) (hJ : J_ W g0 g1) (he : g1 = (pu g.1 k y v, g.2)) : sE ks as W g0 g1 vs cs := by
  subst he
  refine ⟨hJ, fun i hi => ?_, fun i hi => h.2.2 i hi⟩
  rw [pc_ne (sEf_o hd hi (by omega))]
  exact h.2.1 i hi
theorem fA_px {f : pH} {K B j : Nat} {v : Int32} (h : B ≠ K) : fA (f.1, f.2.1, f.2.2.1, pu f.2.2.2.1 K j v, f.2.2.2.2) B = fA f B := by
  funext u
  show (pu f.2.2.2.1 K j v B u).toInt = _
  unfold pu
  rw [if_neg (fun z => h z.1)]
  rfl
theorem S_wa {K n j : Nat} {e : Int} (h : sE ks as W g0 g vs cs) (hn : n < cs.length) (hk : as.getD n 0 = K) (hd : sEa as K n = true) (hJ : J_ W g0 g1) (he : g1 = (g.1, g.2.1, g.2.2.1, pu g.2.2.2.1 K j (Int32.ofInt e), g.2.2.2.2)) (h0 : -2147483648 ≤ e) (h1 : e ≤ 2147483647) : sE ks as W g0 g1 vs (cs.set n (updI (cs.getD n (fun _ => 0)) j e)) := by
  subst he
  refine ⟨hJ, fun i hi => h.2.1 i hi, fun i hi => ?_⟩
  rw [ls_set hn]
  by_cases q : i = n
  · subst q
    rw [if_pos rfl, ← h.2.2 i hi, hk, fA_pu, oT h0 h1]
  · rw [if_neg q, fA_px (sEa_o hd hi q)]
    exact h.2.2 i hi
theorem S_wa0 {K j : Nat} {v : Int32} (h : sE ks as W g0 g vs cs) (hd : sEa as K as.length = true) (hJ : J_ W g0 g1) (he : g1 = (g.1, g.2.1, g.2.2.1, pu g.2.2.2.1 K j v, g.2.2.2.2)) : sE ks as W g0 g1 vs cs := by
  subst he
  refine ⟨hJ, fun i hi => h.2.1 i hi, fun i hi => ?_⟩
  rw [fA_px (sEa_o hd hi (by omega))]
  exact h.2.2 i hi
theorem S_up {V : Nat} (hV : V &&& W = V) {cs2 : List (Nat → Int)} {vs2 : List Int} {ks2 : List (Nat × Nat)} {as2 : List Nat} (hJ : J_ W g0 g) (h : sE ks2 as2 V g g1 vs2 cs2) : sE ks2 as2 W g0 g1 vs2 cs2 := ⟨J_up hV hJ h.1, h.2⟩
end SE
section SR
variable {d μ pc W x y z : Nat} {lv : List (Nat × pv)} {r : List pv} {g0 g h : pH} {P : Option pv × pH → Prop} {ks : List (Nat × Nat)} {as : List Nat} {vs : List Int} {cs : List (Nat → Int)}
theorem pq_cv {i k : Nat} {v : Int} (hk : eL[k]? = some (0, x)) (ht : xk_ty x y = .int) (hv : cF h k y = v) : px_push eL d none (.getfield i) x y lv (pvR k :: r) h = some (oI v :: r) := by
  rw [pq_cf hk ht, hv]
theorem pq_zv {i k : Nat} {v : Int} (hk : eL[k]? = some (0, x)) (ht : xk_ty x y = .boolean) (hv : cF h k y = v) : px_push eL d none (.getfield i) x y lv (pvR k :: r) h = some (oI v :: r) := by
  rw [pq_cz hk ht, hv]
theorem pq_rv {i k m : Nat} {t : FieldType} (hk : eL[k]? = some (0, x)) (ht : xk_ty x y = .array t) (hv : h.2.2.1 k y = some m) : px_push eL d none (.getfield i) x y lv (pvR k :: r) h = some (pvR m :: r) := by
  rw [pget hk (pFa ht), hv]
theorem pFo {k : Nat} {s : String} (ht : xk_ty x y = .object s) : pF h x k y = .inr (.inr (h.2.2.1 k y)) := by
  unfold pF
  rw [ht]
theorem pq_ro {i k m : Nat} {s : String} (hk : eL[k]? = some (0, x)) (ht : xk_ty x y = .object s) (hv : h.2.2.1 k y = some m) : px_push eL d none (.getfield i) x y lv (pvR k :: r) h = some (pvR m :: r) := by
  rw [pget hk (pFo ht), hv]
theorem pq_iv {k n : Nat} {e : Int} {c : Nat → Int} (hk : eL[k]? = some (1, n)) (hn : Nat.ble n 10000 = true) (he : 0 ≤ e ∧ e < n) (hc : fA h k = c) : px_push eL d none .iaload x y lv (oI e :: pvR k :: r) h = some (oI (c e.toNat) :: r) := by
  rw [pq_ia hk hn he, hc]
theorem pb_a {K n j : Nat} {lo hi : Int} {c : Nat → Int} (hG : g_I eG g) (hk : eL[K]? = some (1, n)) (hj : j < n) (hg : eG (cn K) = (lo, hi, [])) (hc : fA g K = c) : lo ≤ c j ∧ c j ≤ hi := by
  have := gb_a hG hk hj hg
  rw [hc] at this
  exact this
theorem pq_ng {a : Int} : px_push eL d none .ineg x y lv (oI a :: r) h = some (oI (-a) :: r) := by
  show some ((.inl (-Int32.ofInt a) : pv) :: r) = some ((.inl (Int32.ofInt (-a)) : pv) :: r)
  rw [Int32.ofInt_neg]
theorem pq_abp {q : xe_I} {a : Int} (hq : xe_look (xc μ) pc = some q) (hk : px_kd q.1 q.2.2.1 = 7) (hx : q.2.2.1 = 8) (hd : 1 ≤ d) (hs : px_sum (oI a :: r) ≤ 8) (ha : 0 ≤ a ∧ a ≤ 2147483647) (ht : t_X d μ (pc + 3) lv (oI a :: r) g P) : t_X d μ pc lv (oI a :: r) g P := by
  refine t_6 hq hk (st2 := oI a :: r) ?_ ht
  rw [hx]
  show (if 1 ≤ d ∧ px_sum (oI a :: r) ≤ 8 then px_u1 xs_ab (oI a :: r) else none) = _
  rw [if_pos ⟨hd, hs⟩]
  show some ((.inl (xs_ab (Int32.ofInt a)) : pv) :: r) = _
  unfold xs_ab
  rw [if_neg (fun z => by rw [z_oI, lt_oI (by omega) (by omega)] at z; omega)]
theorem pq_abn {q : xe_I} {a : Int} (hq : xe_look (xc μ) pc = some q) (hk : px_kd q.1 q.2.2.1 = 7) (hx : q.2.2.1 = 8) (hd : 1 ≤ d) (hs : px_sum (oI a :: r) ≤ 8) (ha : -2147483647 ≤ a ∧ a < 0) (ht : t_X d μ (pc + 3) lv (oI (-a) :: r) g P) : t_X d μ pc lv (oI a :: r) g P := by
  refine t_6 hq hk (st2 := oI (-a) :: r) ?_ ht
  rw [hx]
  show (if 1 ≤ d ∧ px_sum (oI a :: r) ≤ 8 then px_u1 xs_ab (oI a :: r) else none) = _
  rw [if_pos ⟨hd, hs⟩]
  show some ((.inl (xs_ab (Int32.ofInt a)) : pv) :: r) = _
  unfold xs_ab
  rw [if_pos (by rw [z_oI, lt_oI (by omega) (by omega)]; omega), ← Int32.ofInt_neg]
theorem pq_mi {a b : Int} (hd : 1 ≤ d) (hs : px_sum (oI b :: oI a :: r) ≤ 8) (ha : -2147483648 ≤ a ∧ a ≤ 2147483647) (hb : -2147483648 ≤ b ∧ b ≤ 2147483647) {i : Nat} : px_push eL d none (.invokestatic i) 3 y lv (oI b :: oI a :: r) h = some (oI (if b < a then b else a) :: r) := by
  show (if 1 ≤ d ∧ px_sum (oI b :: oI a :: r) ≤ 8 then px_u2 xe_min (oI b :: oI a :: r) else none) = _
  rw [if_pos ⟨hd, hs⟩]
  show some ((.inl (xe_min (Int32.ofInt a) (Int32.ofInt b)) : pv) :: r) = _
  unfold xe_min
  by_cases q : b < a
  · rw [if_pos q, if_pos ((lt_oI hb ha).mpr q)]
  · rw [if_neg q, if_neg (fun z => q ((lt_oI hb ha).mp z))]
theorem ts_f {n i k : Nat} {e lo hi : Int} (hn : Nat.blt n vs.length = true) (hkn : ks.getD n (0, 0) = (k, y)) (hd : sEf ks k y n = true) (hq : xe_look (xc μ) pc = some (.putfield i, 3, x, y, z)) (ht : xk_ty x y = .int) (hk : eL[k]? = some (0, x)) (hS : sE ks as W g0 g vs cs) (hW : W.testBit (cn k + y) = true) (hg : eG (cn k + y) = (lo, hi, [])) (hr : -2147483648 ≤ lo ∧ hi ≤ 2147483647) (he : lo ≤ e ∧ e ≤ hi) (hP : ∀ g1 : pH, sE ks as W g0 g1 (vs.set n e) cs → t_X d μ (pc + 3) lv r g1 P) : t_X d μ pc lv (oI e :: pvR k :: r) g P :=
  tw_c hq hk ht (S_J hS) hW hg hr he (fun g1 hJ e1 => hP g1 (S_wf hS (Nat.le_of_ble_eq_true hn) hkn hd hJ e1 (by omega) (by omega)))
theorem ts_fe {n i k : Nat} {e lo hi : Int} (hn : Nat.blt n vs.length = true) (hkn : ks.getD n (0, 0) = (k, y)) (hd : sEf ks k y n = true) (hq : xe_look (xc μ) pc = some (.putfield i, 3, x, y, z)) (ht : xk_ty x y = .int) (hk : eL[k]? = some (0, x)) (hS : sE ks as W g0 g vs cs) (hW : W.testBit (cn k + y) = true) (hg : eG (cn k + y) = (lo, hi, [])) (hr : -2147483648 ≤ lo ∧ hi ≤ 2147483647) (he : lo ≤ e ∧ e ≤ hi) (hP : ∀ g1 : pH, sE ks as W g0 g1 (vs.set n e) cs → g1.2 = g.2 → t_X d μ (pc + 3) lv r g1 P) : t_X d μ pc lv (oI e :: pvR k :: r) g P :=
  tw_c hq hk ht (S_J hS) hW hg hr he (fun g1 hJ e1 => hP g1 (S_wf hS (Nat.le_of_ble_eq_true hn) hkn hd hJ e1 (by omega) (by omega)) (by rw [e1]))
theorem ts_f0 {i k : Nat} {e lo hi : Int} (hd : sEf ks k y ks.length = true) (hq : xe_look (xc μ) pc = some (.putfield i, 3, x, y, z)) (ht : xk_ty x y = .int) (hk : eL[k]? = some (0, x)) (hS : sE ks as W g0 g vs cs) (hW : W.testBit (cn k + y) = true) (hg : eG (cn k + y) = (lo, hi, [])) (hr : -2147483648 ≤ lo ∧ hi ≤ 2147483647) (he : lo ≤ e ∧ e ≤ hi) (hP : ∀ g1 : pH, sE ks as W g0 g1 vs cs → t_X d μ (pc + 3) lv r g1 P) : t_X d μ pc lv (oI e :: pvR k :: r) g P :=
  tw_c hq hk ht (S_J hS) hW hg hr he (fun g1 hJ e1 => hP g1 (S_wf0 hS hd hJ e1))
theorem ts_z {n i k : Nat} {e lo hi : Int} (hn : Nat.blt n vs.length = true) (hkn : ks.getD n (0, 0) = (k, y)) (hd : sEf ks k y n = true) (hq : xe_look (xc μ) pc = some (.putfield i, 3, x, y, z)) (ht : xk_ty x y = .boolean) (hk : eL[k]? = some (0, x)) (hS : sE ks as W g0 g vs cs) (hW : W.testBit (cn k + y) = true) (hg : eG (cn k + y) = (lo, hi, [])) (hr : -2147483648 ≤ lo ∧ hi ≤ 2147483647) (he : lo ≤ e ∧ e ≤ hi) (hb : e = 0 ∨ e = 1) (hP : ∀ g1 : pH, sE ks as W g0 g1 (vs.set n e) cs → t_X d μ (pc + 3) lv r g1 P) : t_X d μ pc lv (oI e :: pvR k :: r) g P :=
  tw_z hq hk ht (S_J hS) hW hg hr he hb (fun g1 hJ e1 => hP g1 (S_wf hS (Nat.le_of_ble_eq_true hn) hkn hd hJ e1 (by omega) (by omega)))
theorem ts_a {n K m : Nat} {e j lo hi : Int} (hn : Nat.blt n cs.length = true) (hkn : as.getD n 0 = K) (hd : sEa as K n = true) (hq : xe_look (xc μ) pc = some (.iastore, 1, x, y, z)) (hS : sE ks as W g0 g vs cs) (hk : eL[K]? = some (1, m)) (hm : Nat.ble m 10000 = true) (hW : W.testBit (cn K) = true) (hg : eG (cn K) = (lo, hi, [])) (hr : -2147483648 ≤ lo ∧ hi ≤ 2147483647) (hj : 0 ≤ j ∧ j < m) (he : lo ≤ e ∧ e ≤ hi) (hP : ∀ g1 : pH, sE ks as W g0 g1 vs (cs.set n (updI (cs.getD n (fun _ => 0)) j.toNat e)) → t_X d μ (pc + 1) lv r g1 P) : t_X d μ pc lv (oI e :: oI j :: pvR K :: r) g P :=
  tw_i hq (S_J hS) hk hm hW hg hj (by rw [oT (by omega) (by omega)]; exact he) (fun g1 hJ e1 => hP g1 (S_wa hS (Nat.le_of_ble_eq_true hn) hkn hd hJ e1 (by omega) (by omega)))
theorem ts_a0 {K m : Nat} {e j lo hi : Int} (hd : sEa as K as.length = true) (hq : xe_look (xc μ) pc = some (.iastore, 1, x, y, z)) (hS : sE ks as W g0 g vs cs) (hk : eL[K]? = some (1, m)) (hm : Nat.ble m 10000 = true) (hW : W.testBit (cn K) = true) (hg : eG (cn K) = (lo, hi, [])) (hr : -2147483648 ≤ lo ∧ hi ≤ 2147483647) (hj : 0 ≤ j ∧ j < m) (he : lo ≤ e ∧ e ≤ hi) (hP : ∀ g1 : pH, sE ks as W g0 g1 vs cs → t_X d μ (pc + 1) lv r g1 P) : t_X d μ pc lv (oI e :: oI j :: pvR K :: r) g P :=
  tw_i hq (S_J hS) hk hm hW hg hj (by rw [oT (by omega) (by omega)]; exact he) (fun g1 hJ e1 => hP g1 (S_wa0 hS hd hJ e1))
theorem pc_ra {i k m : Nat} {t : FieldType} (hk : eL[k]? = some (0, x)) (ht : xk_ty x y = .array t) : px_wf (.putfield i) eL d x y (pvR m :: pvR k :: r) h = some (r, (h.1, h.2.1, pu h.2.2.1 k y (some m), h.2.2.2)) := by
  show px_put eL h x y (.inr (.inr (some m)) :: .inr (.inr (some k)) :: r) = _
  unfold px_put
  dsimp only
  rw [if_pos hk, ht]
theorem pc_rb {i k m : Nat} {s : String} (hk : eL[k]? = some (0, x)) (ht : xk_ty x y = .object s) : px_wf (.putfield i) eL d x y (pvR m :: pvR k :: r) h = some (r, (h.1, h.2.1, pu h.2.2.1 k y (some m), h.2.2.2)) := by
  show px_put eL h x y (.inr (.inr (some m)) :: .inr (.inr (some k)) :: r) = _
  unfold px_put
  dsimp only
  rw [if_pos hk, ht]
theorem J_re {k m : Nat} (hj : J_ W g0 g) (hk : eL[k]? = some (0, x)) (ht : ∀ q : pH, pF q x k y = .inr (.inr (q.2.2.1 k y))) (hW : W.testBit (cn k + y) = true) (hv : ok_v ((m : Int) + 1) (eG (cn k + y))) : J_ W g0 (g.1, g.2.1, pu g.2.2.1 k y (some m), g.2.2.2) := by
  have hw : w_f g (g.1, g.2.1, pu g.2.2.1 k y (some m), g.2.2.2) k y := ⟨fun k' y' hn => ⟨rfl, rfl, if_neg hn⟩, rfl⟩
  refine ⟨g_I_f hj.1 hw hk ?_, w_f_M hw hj.2 hW⟩
  rw [ht]
  show ok_v (cv (.inr (.inr (pu g.2.2.1 k y (some m) k y)))) _
  rw [show pu g.2.2.1 k y (some m) k y = some m from if_pos ⟨rfl, rfl⟩]
  exact hv
theorem S_re {k y m : Nat} (hS : sE ks as W g0 g vs cs) (hJ : J_ W g0 (g.1, g.2.1, pu g.2.2.1 k y (some m), g.2.2.2)) : sE ks as W g0 (g.1, g.2.1, pu g.2.2.1 k y (some m), g.2.2.2) vs cs := ⟨hJ, hS.2.1, hS.2.2⟩
theorem ts_ra {i k m : Nat} {t : FieldType} (hq : xe_look (xc μ) pc = some (.putfield i, 3, x, y, z)) (ht : xk_ty x y = .array t) (hk : eL[k]? = some (0, x)) (hS : sE ks as W g0 g vs cs) (hW : W.testBit (cn k + y) = true) (hv : ok_v ((m : Int) + 1) (eG (cn k + y))) (hP : ∀ g1 : pH, sE ks as W g0 g1 vs cs → g1 = (g.1, g.2.1, pu g.2.2.1 k y (some m), g.2.2.2) → t_X d μ (pc + 3) lv r g1 P) : t_X d μ pc lv (pvR m :: pvR k :: r) g P :=
  t_4 hq rfl (pc_ra hk ht) (hP _ (S_re hS (J_re (S_J hS) hk (fun q => pFa ht) hW hv)) rfl)
theorem ts_rb {i k m : Nat} {s : String} (hq : xe_look (xc μ) pc = some (.putfield i, 3, x, y, z)) (ht : xk_ty x y = .object s) (hk : eL[k]? = some (0, x)) (hS : sE ks as W g0 g vs cs) (hW : W.testBit (cn k + y) = true) (hv : ok_v ((m : Int) + 1) (eG (cn k + y))) (hP : ∀ g1 : pH, sE ks as W g0 g1 vs cs → g1 = (g.1, g.2.1, pu g.2.2.1 k y (some m), g.2.2.2) → t_X d μ (pc + 3) lv r g1 P) : t_X d μ pc lv (pvR m :: pvR k :: r) g P :=
  t_4 hq rfl (pc_rb hk ht) (hP _ (S_re hS (J_re (S_J hS) hk (fun q => pFo ht) hW hv)) rfl)
end SR
theorem S_0 {ks : List (Nat × Nat)} {as : List Nat} {W : Nat} {g : pH} (hG : g_I eG g) : sE ks as W g g (ks.map (fun t => cF g t.1 t.2)) (as.map (fun k => fA g k)) := by
  refine ⟨J_rf hG, fun i hi => ?_, fun i hi => ?_⟩
  · rw [List.getD_eq_getElem?_getD, List.getD_eq_getElem?_getD, List.getElem?_map, List.getElem?_eq_getElem hi]
    rfl
  · rw [List.getD_eq_getElem?_getD, List.getD_eq_getElem?_getD, List.getElem?_map, List.getElem?_eq_getElem hi]
    rfl
theorem pu_rr {α : Type} {f : Nat → Nat → α} {k y : Nat} {v : α} : pu f k y v k y = v := if_pos ⟨rfl, rfl⟩
theorem pu_rn {α : Type} {f : Nat → Nat → α} {k y a b : Nat} {v : α} (h : ¬ (a = k ∧ b = y)) : pu f k y v a b = f a b := if_neg h
theorem pq_ln {d x y k m n : Nat} {lv : List (Nat × pv)} {r : List pv} {g : pH} (hk : eL[k]? = some (m, n)) (hm : (Nat.ble 1 m && Nat.ble m 4 && !(k == 1000)) = true) : px_push eL d none .arraylength x y lv (pvR k :: r) g = some (oI (n : Int) :: r) := by
  rw [Bool.and_eq_true, Bool.and_eq_true] at hm
  have h1 := Nat.le_of_ble_eq_true hm.1.1
  have h2 := Nat.le_of_ble_eq_true hm.1.2
  have h3 : k ≠ 1000 := fun z => by rw [z] at hm; exact absurd hm.2 (by decide)
  show px_alen eL none (.inr (.inr (some k)) :: r) = _
  unfold px_alen
  dsimp only
  rw [if_neg h3, hk]
  dsimp only
  rw [if_pos ⟨h1, h2⟩]
  rfl
end
section
/-! the tray's text: what reading it comes to (least relation closed under its rules) -/
def tH (B : Nat → Int) (n p : Int) : Int := if p < n then B p.toNat else -1
theorem tH_b {B : Nat → Int} {n : Int} (hB : ∀ j, j < 260 → 0 ≤ B j ∧ B j ≤ 255) (hn : n ≤ 260) {p : Int} (hp : 0 ≤ p) : -1 ≤ tH B n p ∧ tH B n p ≤ 255 := by
  unfold tH
  by_cases q : p < n
  · rw [if_pos q]
    have := hB p.toNat (by omega)
    omega
  · rw [if_neg q]
    omega
theorem tH_n {B : Nat → Int} {n p : Int} : -1 < tH B n p → p < n := by
  unfold tH
  intro h
  by_cases q : p < n
  · exact q
  · rw [if_neg q] at h
    omega
theorem tH_e {B : Nat → Int} {n p : Int} (h : n ≤ p) : tH B n p = -1 := if_neg (by omega)
theorem tH_i {B : Nat → Int} {n p : Int} (h : p < n) : tH B n p = B p.toNat := if_pos h
abbrev tC : Type := Nat → Int
abbrev tR : Type := Int ⊕ (Int × (Int × tC))
def tDg (h : Int) : Prop := 48 ≤ h ∧ h ≤ 57
def tNu (H : Int → Int) (p v q : Int) : Prop := tDg (H p) ∧ ((¬ tDg (H (p + 1)) ∧ v = H p - 48 ∧ q = p + 1) ∨ (tDg (H (p + 1)) ∧ v = 10 * (H p - 48) + (H (p + 1) - 48) ∧ v < 32 ∧ q = p + 2))
def tNf (H : Int → Int) (p f : Int) : Prop := (¬ tDg (H p) ∧ f = -1000 - p) ∨ (tDg (H p) ∧ tDg (H (p + 1)) ∧ 32 ≤ 10 * (H p - 48) + (H (p + 1) - 48) ∧ f = -3000 - p)
theorem tNu_b {H : Int → Int} {p v q : Int} (h : tNu H p v q) : 0 ≤ v ∧ v ≤ 31 ∧ p < q ∧ q ≤ p + 2 := by
  unfold tNu tDg at h
  omega
theorem tNu_n {B : Nat → Int} {n p v q : Int} (h : tNu (tH B n) p v q) : q ≤ n := by
  have h1 := tH_n (B := B) (n := n) (p := p)
  have h2 := tH_n (B := B) (n := n) (p := p + 1)
  unfold tNu tDg at h
  omega
theorem tNu_d {H : Int → Int} {p v q v' q' : Int} (h : tNu H p v q) (h' : tNu H p v' q') : v = v' ∧ q = q' := by
  unfold tNu tDg at h h'
  omega
theorem tNf_d {H : Int → Int} {p f f' : Int} (h : tNf H p f) (h' : tNf H p f') : f = f' := by
  unfold tNf tDg at h h'
  omega
theorem tNuf {H : Int → Int} {p f v q : Int} (h : tNf H p f) (h' : tNu H p v q) : False := by
  unfold tNf tNu tDg at *
  omega
def tW (a z : Int) : Int := if a ≤ z then z - a + 1 else a - z + 1
/-- a row from a to z, at p with m ahead of it -/
def tFi (p m : Int) (c : tC) (a z q : Int) (r : tR) : Prop := (60 < m + tW a z ∧ r = .inl (-6000 - p)) ∨ (m + tW a z ≤ 60 ∧ ∃ c1 : tC, r = .inr (q, m + tW a z, c1) ∧ (∀ j : Nat, (j : Int) < m → c1 j = c j) ∧ (∀ k : Nat, (k : Int) < tW a z → c1 (m + k).toNat = if a ≤ z then a + k else a - k))
def tRo (H : Int → Int) (p m : Int) (c : tC) (r : tR) : Prop := (∃ f, tNf H p f ∧ r = .inl f) ∨ ∃ a q, tNu H p a q ∧ ((H q ≠ 45 ∧ tFi p m c a a q r) ∨ (H q = 45 ∧ ((∃ f, tNf H (q + 1) f ∧ r = .inl f) ∨ ∃ z q2, tNu H (q + 1) z q2 ∧ tFi p m c a z q2 r)))
/-- behind the items of a group that began at p with m ahead of it: items c1 up to m1, at p1 -/
def tEn (H : Int → Int) (p m p1 m1 : Int) (c1 : tC) (r : tR) : Prop := (H p1 ≠ 41 ∧ r = .inl (-1000 - p1)) ∨ (H p1 = 41 ∧ ¬ (50 ≤ H (p1 + 1) ∧ H (p1 + 1) ≤ 57) ∧ r = .inl (-1000 - (p1 + 1))) ∨ (H p1 = 41 ∧ (50 ≤ H (p1 + 1) ∧ H (p1 + 1) ≤ 57) ∧ ((60 < m + (m1 - m) * (H (p1 + 1) - 48) ∧ r = .inl (-6000 - p)) ∨ (m + (m1 - m) * (H (p1 + 1) - 48) ≤ 60 ∧ ∃ c2 : tC, r = .inr (p1 + 2, m + (m1 - m) * (H (p1 + 1) - 48), c2) ∧ (∀ j : Nat, (j : Int) < m1 → c2 j = c1 j) ∧ (∀ j : Nat, m1 ≤ (j : Int) → (j : Int) < m + (m1 - m) * (H (p1 + 1) - 48) → c2 j = c2 (j - (m1 - m)).toNat))))
def tQ (n p m p1 m1 : Int) : Prop := 0 ≤ p ∧ p < p1 ∧ p1 ≤ n ∧ 0 ≤ m ∧ m < m1 ∧ m1 ≤ 60
/-- closed under the rules: I of ITEMS, T of one -/
def tCl (H : Int → Int) (n : Int) (I T : Nat → Int → Int → tC → tR → Prop) : Prop :=
  (∀ (d : Nat) (p m : Int) (c : tC) (r : tR), 0 ≤ p ∧ p ≤ n ∧ 0 ≤ m ∧ m ≤ 60 → H p ≠ 40 → tRo H p m c r → T d p m c r) ∧
  (∀ (d : Nat) (p m : Int) (c : tC), 0 ≤ p ∧ p ≤ n ∧ 0 ≤ m ∧ m ≤ 60 → H p = 40 → 4 ≤ d → T d p m c (.inl (-5000 - p))) ∧
  (∀ (d : Nat) (p m : Int) (c : tC) (f : Int), 0 ≤ p ∧ p < n ∧ 0 ≤ m ∧ m ≤ 60 → H p = 40 → d < 4 → I (d + 1) (p + 1) m c (.inl f) → T d p m c (.inl f)) ∧
  (∀ (d : Nat) (p m : Int) (c : tC) (p1 m1 : Int) (c1 : tC) (r : tR), tQ n (p + 1) m p1 m1 ∧ 0 ≤ p → H p = 40 → d < 4 → I (d + 1) (p + 1) m c (.inr (p1, m1, c1)) → tEn H p m p1 m1 c1 r → T d p m c r) ∧
  (∀ (d : Nat) (p m : Int) (c : tC) (f : Int), T d p m c (.inl f) → I d p m c (.inl f)) ∧
  (∀ (d : Nat) (p m : Int) (c : tC) (p1 m1 : Int) (c1 : tC), tQ n p m p1 m1 → T d p m c (.inr (p1, m1, c1)) → H p1 ≠ 44 → I d p m c (.inr (p1, m1, c1))) ∧
  (∀ (d : Nat) (p m : Int) (c : tC) (p1 m1 : Int) (c1 : tC) (r : tR), tQ n p m p1 m1 → T d p m c (.inr (p1, m1, c1)) → H p1 = 44 → I d (p1 + 1) m1 c1 r → I d p m c r)
def tIs (H : Int → Int) (n : Int) (d : Nat) (p m : Int) (c : tC) (r : tR) : Prop := ∀ I T, tCl H n I T → I d p m c r
def tIt (H : Int → Int) (n : Int) (d : Nat) (p m : Int) (c : tC) (r : tR) : Prop := ∀ I T, tCl H n I T → T d p m c r
theorem tCl_x (H : Int → Int) (n : Int) : tCl H n (tIs H n) (tIt H n) := by
  refine ⟨?_, ?_, ?_, ?_, ?_, ?_, ?_⟩
  · intro d p m c r h1 h2 h3 I T hC
    exact hC.1 d p m c r h1 h2 h3
  · intro d p m c h1 h2 h3 I T hC
    exact hC.2.1 d p m c h1 h2 h3
  · intro d p m c f h1 h2 h3 h4 I T hC
    exact hC.2.2.1 d p m c f h1 h2 h3 (h4 I T hC)
  · intro d p m c p1 m1 c1 r h1 h2 h3 h4 h5 I T hC
    exact hC.2.2.2.1 d p m c p1 m1 c1 r h1 h2 h3 (h4 I T hC) h5
  · intro d p m c f h1 I T hC
    exact hC.2.2.2.2.1 d p m c f (h1 I T hC)
  · intro d p m c p1 m1 c1 h1 h2 h3 I T hC
    exact hC.2.2.2.2.2.1 d p m c p1 m1 c1 h1 (h2 I T hC) h3
  · intro d p m c p1 m1 c1 r h1 h2 h3 h4 I T hC
    exact hC.2.2.2.2.2.2 d p m c p1 m1 c1 r h1 (h2 I T hC) h3 (h4 I T hC)
/-- alike, as far as it matters -/
def tSm (r r' : tR) : Prop := match r, r' with
  | .inl f, .inl f' => f = f'
  | .inr (p, m, c), .inr (p', m', c') => p = p' ∧ m = m' ∧ ∀ j : Nat, (j : Int) < m → c j = c' j
  | _, _ => False
theorem tFi_d {p m : Int} {c c' : tC} (hc : ∀ j : Nat, (j : Int) < m → c j = c' j) {a z q : Int} {r r' : tR} (h : tFi p m c a z q r) (h' : tFi p m c' a z q r') (hm : 0 ≤ m) : tSm r r' := by
  rcases h with ⟨h1, rfl⟩ | ⟨h1, c1, rfl, h2, h3⟩ <;> rcases h' with ⟨g1, rfl⟩ | ⟨g1, c2, rfl, g2, g3⟩
  · exact rfl
  · omega
  · omega
  · refine ⟨rfl, rfl, fun j hj => ?_⟩
    by_cases q : (j : Int) < m
    · rw [h2 j q, g2 j q, hc j q]
    · have e1 := h3 (j - m).toNat (by omega)
      have e2 := g3 (j - m).toNat (by omega)
      rw [show (m + ((j - m).toNat : Int)).toNat = j by omega] at e1 e2
      rw [e1, e2]
theorem tRo_d {H : Int → Int} {p m : Int} {c c' : tC} (hc : ∀ j : Nat, (j : Int) < m → c j = c' j) {r r' : tR} (h : tRo H p m c r) (h' : tRo H p m c' r') (hm : 0 ≤ m) : tSm r r' := by
  rcases h with ⟨f, h1, rfl⟩ | ⟨a, q, h1, h2⟩ <;> rcases h' with ⟨f', g1, rfl⟩ | ⟨a', q', g1, g2⟩
  · exact tNf_d h1 g1
  · exact (tNuf h1 g1).elim
  · exact (tNuf g1 h1).elim
  · obtain ⟨rfl, rfl⟩ := tNu_d h1 g1
    rcases h2 with ⟨h2, h3⟩ | ⟨h2, h3⟩ <;> rcases g2 with ⟨g2, g3⟩ | ⟨g2, g3⟩
    · exact tFi_d hc h3 g3 hm
    · exact absurd g2 h2
    · exact absurd h2 g2
    · rcases h3 with ⟨f, h3, rfl⟩ | ⟨z, q2, h3, h4⟩ <;> rcases g3 with ⟨f', g3, rfl⟩ | ⟨z', q2', g3, g4⟩
      · exact tNf_d h3 g3
      · exact (tNuf h3 g3).elim
      · exact (tNuf g3 h3).elim
      · obtain ⟨rfl, rfl⟩ := tNu_d h3 g3
        exact tFi_d hc h4 g4 hm
theorem tEn_d {H : Int → Int} {p m p1 m1 : Int} {c c' : tC} (hc : ∀ j : Nat, (j : Int) < m1 → c j = c' j) {r r' : tR} (h : tEn H p m p1 m1 c r) (h' : tEn H p m p1 m1 c' r') (hm : 0 ≤ m ∧ m < m1) : tSm r r' := by
  rcases h with ⟨h1, rfl⟩ | ⟨h1, h2, rfl⟩ | ⟨h1, h2, ⟨h3, rfl⟩ | ⟨h3, c1, rfl, h4, h5⟩⟩ <;> rcases h' with ⟨g1, rfl⟩ | ⟨g1, g2, rfl⟩ | ⟨g1, g2, ⟨g3, rfl⟩ | ⟨g3, c2, rfl, g4, g5⟩⟩ <;> first | exact rfl | exact absurd h1 g1 | exact absurd g1 h1 | exact absurd h2 g2 | exact absurd g2 h2 | exact absurd h3 (by omega) | skip
  refine ⟨rfl, rfl, fun j => ?_⟩
  induction j using Nat.strongRecOn with
  | ind j ih =>
    intro hj
    by_cases q : (j : Int) < m1
    · rw [h4 j q, g4 j q, hc j q]
    · rw [h5 j (by omega) hj, g5 j (by omega) hj]
      exact ih _ (by omega) (by omega)
end
section
/-! class: the tray's text, exactly (printed by wip/e2/u1.py) -/
theorem zap150_0 : xe_look (xc 86) 0 = some (.aload_n 0, 1, 0, 0, 0) := by decide +kernel
theorem zap150_1 : xe_look (xc 86) 1 = some (.getfield 18, 3, 9, 1, 944) := by decide +kernel
theorem zap150_4 : xe_look (xc 86) 4 = some (.bipush 60, 2, 0, 0, 0) := by decide +kernel
theorem zap150_6 : xe_look (xc 86) 6 = some (.if_icmp .ge 13, 3, 0, 0, 0) := by decide +kernel
theorem zap150_9 : xe_look (xc 86) 9 = some (.aload_n 0, 1, 0, 0, 0) := by decide +kernel
theorem zap150_10 : xe_look (xc 86) 10 = some (.getfield 9, 3, 9, 0, 945) := by decide +kernel
theorem zap150_13 : xe_look (xc 86) 13 = some (.aload_n 0, 1, 0, 0, 0) := by decide +kernel
theorem zap150_14 : xe_look (xc 86) 14 = some (.getfield 18, 3, 9, 1, 944) := by decide +kernel
theorem zap150_17 : xe_look (xc 86) 17 = some (.iload_n 1, 1, 0, 0, 0) := by decide +kernel
theorem zap150_18 : xe_look (xc 86) 18 = some (.iastore, 1, 0, 0, 0) := by decide +kernel
theorem zap150_19 : xe_look (xc 86) 19 = some (.aload_n 0, 1, 0, 0, 0) := by decide +kernel
theorem zap150_20 : xe_look (xc 86) 20 = some (.dup, 1, 0, 0, 0) := by decide +kernel
theorem zap150_21 : xe_look (xc 86) 21 = some (.getfield 18, 3, 9, 1, 944) := by decide +kernel
theorem zap150_24 : xe_look (xc 86) 24 = some (.iconst 1, 1, 0, 0, 0) := by decide +kernel
theorem zap150_25 : xe_look (xc 86) 25 = some (.iadd, 1, 0, 0, 0) := by decide +kernel
theorem zap150_26 : xe_look (xc 86) 26 = some (.putfield 18, 3, 9, 1, 944) := by decide +kernel
theorem zap150_29 : xe_look (xc 86) 29 = some (.return_, 1, 0, 0, 0) := by decide +kernel
theorem zap152_0 : xe_look (xc 86) 0 = some (.aload_n 0, 1, 0, 0, 0) := by decide +kernel
theorem zap152_1 : xe_look (xc 86) 1 = some (.getfield 18, 3, 9, 1, 944) := by decide +kernel
theorem zap152_4 : xe_look (xc 86) 4 = some (.bipush 60, 2, 0, 0, 0) := by decide +kernel
theorem zap152_6 : xe_look (xc 86) 6 = some (.if_icmp .ge 13, 3, 0, 0, 0) := by decide +kernel
theorem zap152_9 : xe_look (xc 86) 9 = some (.aload_n 0, 1, 0, 0, 0) := by decide +kernel
theorem zap152_10 : xe_look (xc 86) 10 = some (.getfield 9, 3, 9, 0, 945) := by decide +kernel
theorem zap152_13 : xe_look (xc 86) 13 = some (.aload_n 0, 1, 0, 0, 0) := by decide +kernel
theorem zap152_14 : xe_look (xc 86) 14 = some (.getfield 18, 3, 9, 1, 944) := by decide +kernel
theorem zap152_17 : xe_look (xc 86) 17 = some (.iload_n 1, 1, 0, 0, 0) := by decide +kernel
theorem zap152_18 : xe_look (xc 86) 18 = some (.iastore, 1, 0, 0, 0) := by decide +kernel
theorem zap152_19 : xe_look (xc 86) 19 = some (.aload_n 0, 1, 0, 0, 0) := by decide +kernel
theorem zap152_20 : xe_look (xc 86) 20 = some (.dup, 1, 0, 0, 0) := by decide +kernel
theorem zap152_21 : xe_look (xc 86) 21 = some (.getfield 18, 3, 9, 1, 944) := by decide +kernel
theorem zap152_24 : xe_look (xc 86) 24 = some (.iconst 1, 1, 0, 0, 0) := by decide +kernel
theorem zap152_25 : xe_look (xc 86) 25 = some (.iadd, 1, 0, 0, 0) := by decide +kernel
theorem zap152_26 : xe_look (xc 86) 26 = some (.putfield 18, 3, 9, 1, 944) := by decide +kernel
theorem zap152_29 : xe_look (xc 86) 29 = some (.return_, 1, 0, 0, 0) := by decide +kernel
theorem zfl150_0 : xe_look (xc 87) 0 = some (.aload_n 0, 1, 0, 0, 0) := by decide +kernel
theorem zfl150_1 : xe_look (xc 87) 1 = some (.getfield 34, 3, 9, 5, 946) := by decide +kernel
theorem zfl150_4 : xe_look (xc 87) 4 = some (.ifCond .ne 14, 3, 0, 0, 0) := by decide +kernel
theorem zfl150_7 : xe_look (xc 87) 7 = some (.aload_n 0, 1, 0, 0, 0) := by decide +kernel
theorem zfl150_8 : xe_look (xc 87) 8 = some (.sipush (-1000), 3, 0, 0, 0) := by decide +kernel
theorem zfl150_11 : xe_look (xc 87) 11 = some (.iload_n 1, 1, 0, 0, 0) := by decide +kernel
theorem zfl150_12 : xe_look (xc 87) 12 = some (.imul, 1, 0, 0, 0) := by decide +kernel
theorem zfl150_13 : xe_look (xc 87) 13 = some (.iload_n 2, 1, 0, 0, 0) := by decide +kernel
theorem zfl150_14 : xe_look (xc 87) 14 = some (.isub, 1, 0, 0, 0) := by decide +kernel
theorem zfl150_15 : xe_look (xc 87) 15 = some (.putfield 34, 3, 9, 5, 946) := by decide +kernel
theorem zfl150_18 : xe_look (xc 87) 18 = some (.return_, 1, 0, 0, 0) := by decide +kernel
theorem zfl152_0 : xe_look (xc 87) 0 = some (.aload_n 0, 1, 0, 0, 0) := by decide +kernel
theorem zfl152_1 : xe_look (xc 87) 1 = some (.getfield 34, 3, 9, 5, 946) := by decide +kernel
theorem zfl152_4 : xe_look (xc 87) 4 = some (.ifCond .ne 14, 3, 0, 0, 0) := by decide +kernel
theorem zfl152_7 : xe_look (xc 87) 7 = some (.aload_n 0, 1, 0, 0, 0) := by decide +kernel
theorem zfl152_8 : xe_look (xc 87) 8 = some (.sipush (-1000), 3, 0, 0, 0) := by decide +kernel
theorem zfl152_11 : xe_look (xc 87) 11 = some (.iload_n 1, 1, 0, 0, 0) := by decide +kernel
theorem zfl152_12 : xe_look (xc 87) 12 = some (.imul, 1, 0, 0, 0) := by decide +kernel
theorem zfl152_13 : xe_look (xc 87) 13 = some (.iload_n 2, 1, 0, 0, 0) := by decide +kernel
theorem zfl152_14 : xe_look (xc 87) 14 = some (.isub, 1, 0, 0, 0) := by decide +kernel
theorem zfl152_15 : xe_look (xc 87) 15 = some (.putfield 34, 3, 9, 5, 946) := by decide +kernel
theorem zfl152_18 : xe_look (xc 87) 18 = some (.return_, 1, 0, 0, 0) := by decide +kernel
theorem znu150_0 : xe_look (xc 93) 0 = some (.aload_n 0, 1, 0, 0, 0) := by decide +kernel
theorem znu150_1 : xe_look (xc 93) 1 = some (.getfield 31, 3, 9, 4, 951) := by decide +kernel
theorem znu150_4 : xe_look (xc 93) 4 = some (.istore_n 1, 1, 0, 0, 0) := by decide +kernel
theorem znu150_5 : xe_look (xc 93) 5 = some (.iconst 0, 1, 0, 0, 0) := by decide +kernel
theorem znu150_6 : xe_look (xc 93) 6 = some (.istore_n 2, 1, 0, 0, 0) := by decide +kernel
theorem znu150_7 : xe_look (xc 93) 7 = some (.iconst 0, 1, 0, 0, 0) := by decide +kernel
theorem znu150_8 : xe_look (xc 93) 8 = some (.istore_n 3, 1, 0, 0, 0) := by decide +kernel
theorem znu150_9 : xe_look (xc 93) 9 = some (.iload_n 3, 1, 0, 0, 0) := by decide +kernel
theorem znu150_10 : xe_look (xc 93) 10 = some (.iconst 2, 1, 0, 0, 0) := by decide +kernel
theorem znu150_11 : xe_look (xc 93) 11 = some (.if_icmp .ge 46, 3, 0, 0, 0) := by decide +kernel
theorem znu150_14 : xe_look (xc 93) 14 = some (.aload_n 0, 1, 0, 0, 0) := by decide +kernel
theorem znu150_15 : xe_look (xc 93) 15 = some (.invokevirtual 48, 3, 0, 97, 954) := by decide +kernel
theorem znu150_18 : xe_look (xc 93) 18 = some (.bipush 48, 2, 0, 0, 0) := by decide +kernel
theorem znu150_20 : xe_look (xc 93) 20 = some (.bipush 57, 2, 0, 0, 0) := by decide +kernel
theorem znu150_22 : xe_look (xc 93) 22 = some (.invokestatic 58, 3, 1, 124, 7) := by decide +kernel
theorem znu150_25 : xe_look (xc 93) 25 = some (.ifCond .eq 32, 3, 0, 0, 0) := by decide +kernel
theorem znu150_28 : xe_look (xc 93) 28 = some (.bipush 10, 2, 0, 0, 0) := by decide +kernel
theorem znu150_30 : xe_look (xc 93) 30 = some (.iload_n 2, 1, 0, 0, 0) := by decide +kernel
theorem znu150_31 : xe_look (xc 93) 31 = some (.imul, 1, 0, 0, 0) := by decide +kernel
theorem znu150_32 : xe_look (xc 93) 32 = some (.aload_n 0, 1, 0, 0, 0) := by decide +kernel
theorem znu150_33 : xe_look (xc 93) 33 = some (.invokevirtual 48, 3, 0, 97, 954) := by decide +kernel
theorem znu150_36 : xe_look (xc 93) 36 = some (.iadd, 1, 0, 0, 0) := by decide +kernel
theorem znu150_37 : xe_look (xc 93) 37 = some (.bipush 48, 2, 0, 0, 0) := by decide +kernel
theorem znu150_39 : xe_look (xc 93) 39 = some (.isub, 1, 0, 0, 0) := by decide +kernel
theorem znu150_40 : xe_look (xc 93) 40 = some (.istore_n 2, 1, 0, 0, 0) := by decide +kernel
theorem znu150_41 : xe_look (xc 93) 41 = some (.aload_n 0, 1, 0, 0, 0) := by decide +kernel
theorem znu150_42 : xe_look (xc 93) 42 = some (.dup, 1, 0, 0, 0) := by decide +kernel
theorem znu150_43 : xe_look (xc 93) 43 = some (.getfield 31, 3, 9, 4, 951) := by decide +kernel
theorem znu150_46 : xe_look (xc 93) 46 = some (.iconst 1, 1, 0, 0, 0) := by decide +kernel
theorem znu150_47 : xe_look (xc 93) 47 = some (.iadd, 1, 0, 0, 0) := by decide +kernel
theorem znu150_48 : xe_look (xc 93) 48 = some (.putfield 31, 3, 9, 4, 951) := by decide +kernel
theorem znu150_51 : xe_look (xc 93) 51 = some (.iinc 3 1, 3, 0, 0, 0) := by decide +kernel
theorem znu150_54 : xe_look (xc 93) 54 = some (.goto (-45), 3, 0, 0, 0) := by decide +kernel
theorem znu150_57 : xe_look (xc 93) 57 = some (.aload_n 0, 1, 0, 0, 0) := by decide +kernel
theorem znu150_58 : xe_look (xc 93) 58 = some (.getfield 31, 3, 9, 4, 951) := by decide +kernel
theorem znu150_61 : xe_look (xc 93) 61 = some (.iload_n 1, 1, 0, 0, 0) := by decide +kernel
theorem znu150_62 : xe_look (xc 93) 62 = some (.if_icmp .ne 15, 3, 0, 0, 0) := by decide +kernel
theorem znu150_65 : xe_look (xc 93) 65 = some (.aload_n 0, 1, 0, 0, 0) := by decide +kernel
theorem znu150_66 : xe_look (xc 93) 66 = some (.iconst 1, 1, 0, 0, 0) := by decide +kernel
theorem znu150_67 : xe_look (xc 93) 67 = some (.aload_n 0, 1, 0, 0, 0) := by decide +kernel
theorem znu150_68 : xe_look (xc 93) 68 = some (.getfield 31, 3, 9, 4, 951) := by decide +kernel
theorem znu150_71 : xe_look (xc 93) 71 = some (.invokevirtual 41, 3, 0, 87, 953) := by decide +kernel
theorem znu150_74 : xe_look (xc 93) 74 = some (.goto 15, 3, 0, 0, 0) := by decide +kernel
theorem znu150_77 : xe_look (xc 93) 77 = some (.iload_n 2, 1, 0, 0, 0) := by decide +kernel
theorem znu150_78 : xe_look (xc 93) 78 = some (.bipush 32, 2, 0, 0, 0) := by decide +kernel
theorem znu150_80 : xe_look (xc 93) 80 = some (.if_icmp .lt 9, 3, 0, 0, 0) := by decide +kernel
theorem znu150_83 : xe_look (xc 93) 83 = some (.aload_n 0, 1, 0, 0, 0) := by decide +kernel
theorem znu150_84 : xe_look (xc 93) 84 = some (.iconst 3, 1, 0, 0, 0) := by decide +kernel
theorem znu150_85 : xe_look (xc 93) 85 = some (.iload_n 1, 1, 0, 0, 0) := by decide +kernel
theorem znu150_86 : xe_look (xc 93) 86 = some (.invokevirtual 41, 3, 0, 87, 953) := by decide +kernel
theorem znu150_89 : xe_look (xc 93) 89 = some (.iload_n 2, 1, 0, 0, 0) := by decide +kernel
theorem znu150_90 : xe_look (xc 93) 90 = some (.ireturn, 1, 0, 0, 0) := by decide +kernel
theorem znu152_0 : xe_look (xc 93) 0 = some (.aload_n 0, 1, 0, 0, 0) := by decide +kernel
theorem znu152_1 : xe_look (xc 93) 1 = some (.getfield 31, 3, 9, 4, 951) := by decide +kernel
theorem znu152_4 : xe_look (xc 93) 4 = some (.istore_n 1, 1, 0, 0, 0) := by decide +kernel
theorem znu152_5 : xe_look (xc 93) 5 = some (.iconst 0, 1, 0, 0, 0) := by decide +kernel
theorem znu152_6 : xe_look (xc 93) 6 = some (.istore_n 2, 1, 0, 0, 0) := by decide +kernel
theorem znu152_7 : xe_look (xc 93) 7 = some (.iconst 0, 1, 0, 0, 0) := by decide +kernel
theorem znu152_8 : xe_look (xc 93) 8 = some (.istore_n 3, 1, 0, 0, 0) := by decide +kernel
theorem znu152_9 : xe_look (xc 93) 9 = some (.iload_n 3, 1, 0, 0, 0) := by decide +kernel
theorem znu152_10 : xe_look (xc 93) 10 = some (.iconst 2, 1, 0, 0, 0) := by decide +kernel
theorem znu152_11 : xe_look (xc 93) 11 = some (.if_icmp .ge 46, 3, 0, 0, 0) := by decide +kernel
theorem znu152_14 : xe_look (xc 93) 14 = some (.aload_n 0, 1, 0, 0, 0) := by decide +kernel
theorem znu152_15 : xe_look (xc 93) 15 = some (.invokevirtual 48, 3, 0, 97, 954) := by decide +kernel
theorem znu152_18 : xe_look (xc 93) 18 = some (.bipush 48, 2, 0, 0, 0) := by decide +kernel
theorem znu152_20 : xe_look (xc 93) 20 = some (.bipush 57, 2, 0, 0, 0) := by decide +kernel
theorem znu152_22 : xe_look (xc 93) 22 = some (.invokestatic 58, 3, 1, 124, 7) := by decide +kernel
theorem znu152_25 : xe_look (xc 93) 25 = some (.ifCond .eq 32, 3, 0, 0, 0) := by decide +kernel
theorem znu152_28 : xe_look (xc 93) 28 = some (.bipush 10, 2, 0, 0, 0) := by decide +kernel
theorem znu152_30 : xe_look (xc 93) 30 = some (.iload_n 2, 1, 0, 0, 0) := by decide +kernel
theorem znu152_31 : xe_look (xc 93) 31 = some (.imul, 1, 0, 0, 0) := by decide +kernel
theorem znu152_32 : xe_look (xc 93) 32 = some (.aload_n 0, 1, 0, 0, 0) := by decide +kernel
theorem znu152_33 : xe_look (xc 93) 33 = some (.invokevirtual 48, 3, 0, 97, 954) := by decide +kernel
theorem znu152_36 : xe_look (xc 93) 36 = some (.iadd, 1, 0, 0, 0) := by decide +kernel
theorem znu152_37 : xe_look (xc 93) 37 = some (.bipush 48, 2, 0, 0, 0) := by decide +kernel
theorem znu152_39 : xe_look (xc 93) 39 = some (.isub, 1, 0, 0, 0) := by decide +kernel
theorem znu152_40 : xe_look (xc 93) 40 = some (.istore_n 2, 1, 0, 0, 0) := by decide +kernel
theorem znu152_41 : xe_look (xc 93) 41 = some (.aload_n 0, 1, 0, 0, 0) := by decide +kernel
theorem znu152_42 : xe_look (xc 93) 42 = some (.dup, 1, 0, 0, 0) := by decide +kernel
theorem znu152_43 : xe_look (xc 93) 43 = some (.getfield 31, 3, 9, 4, 951) := by decide +kernel
theorem znu152_46 : xe_look (xc 93) 46 = some (.iconst 1, 1, 0, 0, 0) := by decide +kernel
theorem znu152_47 : xe_look (xc 93) 47 = some (.iadd, 1, 0, 0, 0) := by decide +kernel
theorem znu152_48 : xe_look (xc 93) 48 = some (.putfield 31, 3, 9, 4, 951) := by decide +kernel
theorem znu152_51 : xe_look (xc 93) 51 = some (.iinc 3 1, 3, 0, 0, 0) := by decide +kernel
theorem znu152_54 : xe_look (xc 93) 54 = some (.goto (-45), 3, 0, 0, 0) := by decide +kernel
theorem znu152_57 : xe_look (xc 93) 57 = some (.aload_n 0, 1, 0, 0, 0) := by decide +kernel
theorem znu152_58 : xe_look (xc 93) 58 = some (.getfield 31, 3, 9, 4, 951) := by decide +kernel
theorem znu152_61 : xe_look (xc 93) 61 = some (.iload_n 1, 1, 0, 0, 0) := by decide +kernel
theorem znu152_62 : xe_look (xc 93) 62 = some (.if_icmp .ne 15, 3, 0, 0, 0) := by decide +kernel
theorem znu152_65 : xe_look (xc 93) 65 = some (.aload_n 0, 1, 0, 0, 0) := by decide +kernel
theorem znu152_66 : xe_look (xc 93) 66 = some (.iconst 1, 1, 0, 0, 0) := by decide +kernel
theorem znu152_67 : xe_look (xc 93) 67 = some (.aload_n 0, 1, 0, 0, 0) := by decide +kernel
theorem znu152_68 : xe_look (xc 93) 68 = some (.getfield 31, 3, 9, 4, 951) := by decide +kernel
theorem znu152_71 : xe_look (xc 93) 71 = some (.invokevirtual 41, 3, 0, 87, 953) := by decide +kernel
theorem znu152_74 : xe_look (xc 93) 74 = some (.goto 15, 3, 0, 0, 0) := by decide +kernel
theorem znu152_77 : xe_look (xc 93) 77 = some (.iload_n 2, 1, 0, 0, 0) := by decide +kernel
theorem znu152_78 : xe_look (xc 93) 78 = some (.bipush 32, 2, 0, 0, 0) := by decide +kernel
theorem znu152_80 : xe_look (xc 93) 80 = some (.if_icmp .lt 9, 3, 0, 0, 0) := by decide +kernel
theorem znu152_83 : xe_look (xc 93) 83 = some (.aload_n 0, 1, 0, 0, 0) := by decide +kernel
theorem znu152_84 : xe_look (xc 93) 84 = some (.iconst 3, 1, 0, 0, 0) := by decide +kernel
theorem znu152_85 : xe_look (xc 93) 85 = some (.iload_n 1, 1, 0, 0, 0) := by decide +kernel
theorem znu152_86 : xe_look (xc 93) 86 = some (.invokevirtual 41, 3, 0, 87, 953) := by decide +kernel
theorem znu152_89 : xe_look (xc 93) 89 = some (.iload_n 2, 1, 0, 0, 0) := by decide +kernel
theorem znu152_90 : xe_look (xc 93) 90 = some (.ireturn, 1, 0, 0, 0) := by decide +kernel
theorem zrw150_0 : xe_look (xc 95) 0 = some (.aload_n 0, 1, 0, 0, 0) := by decide +kernel
theorem zrw150_1 : xe_look (xc 95) 1 = some (.invokevirtual 73, 3, 0, 93, 959) := by decide +kernel
theorem zrw150_4 : xe_look (xc 95) 4 = some (.istore_n 1, 1, 0, 0, 0) := by decide +kernel
theorem zrw150_5 : xe_look (xc 95) 5 = some (.iload_n 1, 1, 0, 0, 0) := by decide +kernel
theorem zrw150_6 : xe_look (xc 95) 6 = some (.istore_n 2, 1, 0, 0, 0) := by decide +kernel
theorem zrw150_7 : xe_look (xc 95) 7 = some (.aload_n 0, 1, 0, 0, 0) := by decide +kernel
theorem zrw150_8 : xe_look (xc 95) 8 = some (.getfield 34, 3, 9, 5, 946) := by decide +kernel
theorem zrw150_11 : xe_look (xc 95) 11 = some (.ifCond .ne 27, 3, 0, 0, 0) := by decide +kernel
theorem zrw150_14 : xe_look (xc 95) 14 = some (.aload_n 0, 1, 0, 0, 0) := by decide +kernel
theorem zrw150_15 : xe_look (xc 95) 15 = some (.invokevirtual 48, 3, 0, 97, 954) := by decide +kernel
theorem zrw150_18 : xe_look (xc 95) 18 = some (.bipush 45, 2, 0, 0, 0) := by decide +kernel
theorem zrw150_20 : xe_look (xc 95) 20 = some (.if_icmp .ne 18, 3, 0, 0, 0) := by decide +kernel
theorem zrw150_23 : xe_look (xc 95) 23 = some (.aload_n 0, 1, 0, 0, 0) := by decide +kernel
theorem zrw150_24 : xe_look (xc 95) 24 = some (.dup, 1, 0, 0, 0) := by decide +kernel
theorem zrw150_25 : xe_look (xc 95) 25 = some (.getfield 31, 3, 9, 4, 951) := by decide +kernel
theorem zrw150_28 : xe_look (xc 95) 28 = some (.iconst 1, 1, 0, 0, 0) := by decide +kernel
theorem zrw150_29 : xe_look (xc 95) 29 = some (.iadd, 1, 0, 0, 0) := by decide +kernel
theorem zrw150_30 : xe_look (xc 95) 30 = some (.putfield 31, 3, 9, 4, 951) := by decide +kernel
theorem zrw150_33 : xe_look (xc 95) 33 = some (.aload_n 0, 1, 0, 0, 0) := by decide +kernel
theorem zrw150_34 : xe_look (xc 95) 34 = some (.invokevirtual 73, 3, 0, 93, 959) := by decide +kernel
theorem zrw150_37 : xe_look (xc 95) 37 = some (.istore_n 2, 1, 0, 0, 0) := by decide +kernel
theorem zrw150_38 : xe_look (xc 95) 38 = some (.aload_n 0, 1, 0, 0, 0) := by decide +kernel
theorem zrw150_39 : xe_look (xc 95) 39 = some (.getfield 34, 3, 9, 5, 946) := by decide +kernel
theorem zrw150_42 : xe_look (xc 95) 42 = some (.ifCond .eq 4, 3, 0, 0, 0) := by decide +kernel
theorem zrw150_45 : xe_look (xc 95) 45 = some (.return_, 1, 0, 0, 0) := by decide +kernel
theorem zrw150_46 : xe_look (xc 95) 46 = some (.iload_n 1, 1, 0, 0, 0) := by decide +kernel
theorem zrw150_47 : xe_look (xc 95) 47 = some (.iload_n 2, 1, 0, 0, 0) := by decide +kernel
theorem zrw150_48 : xe_look (xc 95) 48 = some (.if_icmp .gt 7, 3, 0, 0, 0) := by decide +kernel
theorem zrw150_51 : xe_look (xc 95) 51 = some (.iconst 1, 1, 0, 0, 0) := by decide +kernel
theorem zrw150_52 : xe_look (xc 95) 52 = some (.goto 4, 3, 0, 0, 0) := by decide +kernel
theorem zrw150_55 : xe_look (xc 95) 55 = some (.iconst (-1), 1, 0, 0, 0) := by decide +kernel
theorem zrw150_56 : xe_look (xc 95) 56 = some (.istore_n 3, 1, 0, 0, 0) := by decide +kernel
theorem zrw150_57 : xe_look (xc 95) 57 = some (.iload_n 2, 1, 0, 0, 0) := by decide +kernel
theorem zrw150_58 : xe_look (xc 95) 58 = some (.iload_n 1, 1, 0, 0, 0) := by decide +kernel
theorem zrw150_59 : xe_look (xc 95) 59 = some (.isub, 1, 0, 0, 0) := by decide +kernel
theorem zrw150_60 : xe_look (xc 95) 60 = some (.invokestatic 76, 3, 8, 0, 960) := by decide +kernel
theorem zrw150_63 : xe_look (xc 95) 63 = some (.iconst 1, 1, 0, 0, 0) := by decide +kernel
theorem zrw150_64 : xe_look (xc 95) 64 = some (.iadd, 1, 0, 0, 0) := by decide +kernel
theorem zrw150_65 : xe_look (xc 95) 65 = some (.istore 4, 2, 0, 0, 0) := by decide +kernel
theorem zrw150_67 : xe_look (xc 95) 67 = some (.iconst 0, 1, 0, 0, 0) := by decide +kernel
theorem zrw150_68 : xe_look (xc 95) 68 = some (.istore 5, 2, 0, 0, 0) := by decide +kernel
theorem zrw150_70 : xe_look (xc 95) 70 = some (.iload 5, 2, 0, 0, 0) := by decide +kernel
theorem zrw150_72 : xe_look (xc 95) 72 = some (.iload 4, 2, 0, 0, 0) := by decide +kernel
theorem zrw150_74 : xe_look (xc 95) 74 = some (.if_icmp .ge 19, 3, 0, 0, 0) := by decide +kernel
theorem zrw150_77 : xe_look (xc 95) 77 = some (.aload_n 0, 1, 0, 0, 0) := by decide +kernel
theorem zrw150_78 : xe_look (xc 95) 78 = some (.iload_n 1, 1, 0, 0, 0) := by decide +kernel
theorem zrw150_79 : xe_look (xc 95) 79 = some (.iload 5, 2, 0, 0, 0) := by decide +kernel
theorem zrw150_81 : xe_look (xc 95) 81 = some (.iload_n 3, 1, 0, 0, 0) := by decide +kernel
theorem zrw150_82 : xe_look (xc 95) 82 = some (.imul, 1, 0, 0, 0) := by decide +kernel
theorem zrw150_83 : xe_look (xc 95) 83 = some (.iadd, 1, 0, 0, 0) := by decide +kernel
theorem zrw150_84 : xe_look (xc 95) 84 = some (.invokevirtual 70, 3, 0, 86, 961) := by decide +kernel
theorem zrw150_87 : xe_look (xc 95) 87 = some (.iinc 5 1, 3, 0, 0, 0) := by decide +kernel
theorem zrw150_90 : xe_look (xc 95) 90 = some (.goto (-20), 3, 0, 0, 0) := by decide +kernel
theorem zrw150_93 : xe_look (xc 95) 93 = some (.return_, 1, 0, 0, 0) := by decide +kernel
theorem zrw152_0 : xe_look (xc 95) 0 = some (.aload_n 0, 1, 0, 0, 0) := by decide +kernel
theorem zrw152_1 : xe_look (xc 95) 1 = some (.invokevirtual 73, 3, 0, 93, 959) := by decide +kernel
theorem zrw152_4 : xe_look (xc 95) 4 = some (.istore_n 1, 1, 0, 0, 0) := by decide +kernel
theorem zrw152_5 : xe_look (xc 95) 5 = some (.iload_n 1, 1, 0, 0, 0) := by decide +kernel
theorem zrw152_6 : xe_look (xc 95) 6 = some (.istore_n 2, 1, 0, 0, 0) := by decide +kernel
theorem zrw152_7 : xe_look (xc 95) 7 = some (.aload_n 0, 1, 0, 0, 0) := by decide +kernel
theorem zrw152_8 : xe_look (xc 95) 8 = some (.getfield 34, 3, 9, 5, 946) := by decide +kernel
theorem zrw152_11 : xe_look (xc 95) 11 = some (.ifCond .ne 27, 3, 0, 0, 0) := by decide +kernel
theorem zrw152_14 : xe_look (xc 95) 14 = some (.aload_n 0, 1, 0, 0, 0) := by decide +kernel
theorem zrw152_15 : xe_look (xc 95) 15 = some (.invokevirtual 48, 3, 0, 97, 954) := by decide +kernel
theorem zrw152_18 : xe_look (xc 95) 18 = some (.bipush 45, 2, 0, 0, 0) := by decide +kernel
theorem zrw152_20 : xe_look (xc 95) 20 = some (.if_icmp .ne 18, 3, 0, 0, 0) := by decide +kernel
theorem zrw152_23 : xe_look (xc 95) 23 = some (.aload_n 0, 1, 0, 0, 0) := by decide +kernel
theorem zrw152_24 : xe_look (xc 95) 24 = some (.dup, 1, 0, 0, 0) := by decide +kernel
theorem zrw152_25 : xe_look (xc 95) 25 = some (.getfield 31, 3, 9, 4, 951) := by decide +kernel
theorem zrw152_28 : xe_look (xc 95) 28 = some (.iconst 1, 1, 0, 0, 0) := by decide +kernel
theorem zrw152_29 : xe_look (xc 95) 29 = some (.iadd, 1, 0, 0, 0) := by decide +kernel
theorem zrw152_30 : xe_look (xc 95) 30 = some (.putfield 31, 3, 9, 4, 951) := by decide +kernel
theorem zrw152_33 : xe_look (xc 95) 33 = some (.aload_n 0, 1, 0, 0, 0) := by decide +kernel
theorem zrw152_34 : xe_look (xc 95) 34 = some (.invokevirtual 73, 3, 0, 93, 959) := by decide +kernel
theorem zrw152_37 : xe_look (xc 95) 37 = some (.istore_n 2, 1, 0, 0, 0) := by decide +kernel
theorem zrw152_38 : xe_look (xc 95) 38 = some (.aload_n 0, 1, 0, 0, 0) := by decide +kernel
theorem zrw152_39 : xe_look (xc 95) 39 = some (.getfield 34, 3, 9, 5, 946) := by decide +kernel
theorem zrw152_42 : xe_look (xc 95) 42 = some (.ifCond .eq 4, 3, 0, 0, 0) := by decide +kernel
theorem zrw152_45 : xe_look (xc 95) 45 = some (.return_, 1, 0, 0, 0) := by decide +kernel
theorem zrw152_46 : xe_look (xc 95) 46 = some (.iload_n 1, 1, 0, 0, 0) := by decide +kernel
theorem zrw152_47 : xe_look (xc 95) 47 = some (.iload_n 2, 1, 0, 0, 0) := by decide +kernel
theorem zrw152_48 : xe_look (xc 95) 48 = some (.if_icmp .gt 7, 3, 0, 0, 0) := by decide +kernel
theorem zrw152_51 : xe_look (xc 95) 51 = some (.iconst 1, 1, 0, 0, 0) := by decide +kernel
theorem zrw152_52 : xe_look (xc 95) 52 = some (.goto 4, 3, 0, 0, 0) := by decide +kernel
theorem zrw152_55 : xe_look (xc 95) 55 = some (.iconst (-1), 1, 0, 0, 0) := by decide +kernel
theorem zrw152_56 : xe_look (xc 95) 56 = some (.istore_n 3, 1, 0, 0, 0) := by decide +kernel
theorem zrw152_57 : xe_look (xc 95) 57 = some (.iload_n 2, 1, 0, 0, 0) := by decide +kernel
theorem zrw152_58 : xe_look (xc 95) 58 = some (.iload_n 1, 1, 0, 0, 0) := by decide +kernel
theorem zrw152_59 : xe_look (xc 95) 59 = some (.isub, 1, 0, 0, 0) := by decide +kernel
theorem zrw152_60 : xe_look (xc 95) 60 = some (.invokestatic 76, 3, 8, 0, 960) := by decide +kernel
theorem zrw152_63 : xe_look (xc 95) 63 = some (.iconst 1, 1, 0, 0, 0) := by decide +kernel
theorem zrw152_64 : xe_look (xc 95) 64 = some (.iadd, 1, 0, 0, 0) := by decide +kernel
theorem zrw152_65 : xe_look (xc 95) 65 = some (.istore 4, 2, 0, 0, 0) := by decide +kernel
theorem zrw152_67 : xe_look (xc 95) 67 = some (.iconst 0, 1, 0, 0, 0) := by decide +kernel
theorem zrw152_68 : xe_look (xc 95) 68 = some (.istore 5, 2, 0, 0, 0) := by decide +kernel
theorem zrw152_70 : xe_look (xc 95) 70 = some (.iload 5, 2, 0, 0, 0) := by decide +kernel
theorem zrw152_72 : xe_look (xc 95) 72 = some (.iload 4, 2, 0, 0, 0) := by decide +kernel
theorem zrw152_74 : xe_look (xc 95) 74 = some (.if_icmp .ge 19, 3, 0, 0, 0) := by decide +kernel
theorem zrw152_77 : xe_look (xc 95) 77 = some (.aload_n 0, 1, 0, 0, 0) := by decide +kernel
theorem zrw152_78 : xe_look (xc 95) 78 = some (.iload_n 1, 1, 0, 0, 0) := by decide +kernel
theorem zrw152_79 : xe_look (xc 95) 79 = some (.iload 5, 2, 0, 0, 0) := by decide +kernel
theorem zrw152_81 : xe_look (xc 95) 81 = some (.iload_n 3, 1, 0, 0, 0) := by decide +kernel
theorem zrw152_82 : xe_look (xc 95) 82 = some (.imul, 1, 0, 0, 0) := by decide +kernel
theorem zrw152_83 : xe_look (xc 95) 83 = some (.iadd, 1, 0, 0, 0) := by decide +kernel
theorem zrw152_84 : xe_look (xc 95) 84 = some (.invokevirtual 70, 3, 0, 86, 961) := by decide +kernel
theorem zrw152_87 : xe_look (xc 95) 87 = some (.iinc 5 1, 3, 0, 0, 0) := by decide +kernel
theorem zrw152_90 : xe_look (xc 95) 90 = some (.goto (-20), 3, 0, 0, 0) := by decide +kernel
theorem zrw152_93 : xe_look (xc 95) 93 = some (.return_, 1, 0, 0, 0) := by decide +kernel
theorem zsg150_0 : xe_look (xc 97) 0 = some (.aload_n 0, 1, 0, 0, 0) := by decide +kernel
theorem zsg150_1 : xe_look (xc 97) 1 = some (.getfield 31, 3, 9, 4, 951) := by decide +kernel
theorem zsg150_4 : xe_look (xc 97) 4 = some (.aload_n 0, 1, 0, 0, 0) := by decide +kernel
theorem zsg150_5 : xe_look (xc 97) 5 = some (.getfield 28, 3, 9, 3, 950) := by decide +kernel
theorem zsg150_8 : xe_look (xc 97) 8 = some (.if_icmp .ge 15, 3, 0, 0, 0) := by decide +kernel
theorem zsg150_11 : xe_look (xc 97) 11 = some (.aload_n 0, 1, 0, 0, 0) := by decide +kernel
theorem zsg150_12 : xe_look (xc 97) 12 = some (.getfield 15, 3, 9, 2, 948) := by decide +kernel
theorem zsg150_15 : xe_look (xc 97) 15 = some (.aload_n 0, 1, 0, 0, 0) := by decide +kernel
theorem zsg150_16 : xe_look (xc 97) 16 = some (.getfield 31, 3, 9, 4, 951) := by decide +kernel
theorem zsg150_19 : xe_look (xc 97) 19 = some (.iaload, 1, 0, 0, 0) := by decide +kernel
theorem zsg150_20 : xe_look (xc 97) 20 = some (.goto 4, 3, 0, 0, 0) := by decide +kernel
theorem zsg150_23 : xe_look (xc 97) 23 = some (.iconst (-1), 1, 0, 0, 0) := by decide +kernel
theorem zsg150_24 : xe_look (xc 97) 24 = some (.ireturn, 1, 0, 0, 0) := by decide +kernel
theorem zsg152_0 : xe_look (xc 97) 0 = some (.aload_n 0, 1, 0, 0, 0) := by decide +kernel
theorem zsg152_1 : xe_look (xc 97) 1 = some (.getfield 31, 3, 9, 4, 951) := by decide +kernel
theorem zsg152_4 : xe_look (xc 97) 4 = some (.aload_n 0, 1, 0, 0, 0) := by decide +kernel
theorem zsg152_5 : xe_look (xc 97) 5 = some (.getfield 28, 3, 9, 3, 950) := by decide +kernel
theorem zsg152_8 : xe_look (xc 97) 8 = some (.if_icmp .ge 15, 3, 0, 0, 0) := by decide +kernel
theorem zsg152_11 : xe_look (xc 97) 11 = some (.aload_n 0, 1, 0, 0, 0) := by decide +kernel
theorem zsg152_12 : xe_look (xc 97) 12 = some (.getfield 15, 3, 9, 2, 948) := by decide +kernel
theorem zsg152_15 : xe_look (xc 97) 15 = some (.aload_n 0, 1, 0, 0, 0) := by decide +kernel
theorem zsg152_16 : xe_look (xc 97) 16 = some (.getfield 31, 3, 9, 4, 951) := by decide +kernel
theorem zsg152_19 : xe_look (xc 97) 19 = some (.iaload, 1, 0, 0, 0) := by decide +kernel
theorem zsg152_20 : xe_look (xc 97) 20 = some (.goto 4, 3, 0, 0, 0) := by decide +kernel
theorem zsg152_23 : xe_look (xc 97) 23 = some (.iconst (-1), 1, 0, 0, 0) := by decide +kernel
theorem zsg152_24 : xe_look (xc 97) 24 = some (.ireturn, 1, 0, 0, 0) := by decide +kernel
theorem zsl150_0 : xe_look (xc 98) 0 = some (.iload_n 1, 1, 0, 0, 0) := by decide +kernel
theorem zsl150_1 : xe_look (xc 98) 1 = some (.ifCond .lt 26, 3, 0, 0, 0) := by decide +kernel
theorem zsl150_4 : xe_look (xc 98) 4 = some (.iload_n 1, 1, 0, 0, 0) := by decide +kernel
theorem zsl150_5 : xe_look (xc 98) 5 = some (.aload_n 0, 1, 0, 0, 0) := by decide +kernel
theorem zsl150_6 : xe_look (xc 98) 6 = some (.getfield 18, 3, 9, 1, 944) := by decide +kernel
theorem zsl150_9 : xe_look (xc 98) 9 = some (.if_icmp .ge 18, 3, 0, 0, 0) := by decide +kernel
theorem zsl150_12 : xe_look (xc 98) 12 = some (.iload_n 1, 1, 0, 0, 0) := by decide +kernel
theorem zsl150_13 : xe_look (xc 98) 13 = some (.bipush 60, 2, 0, 0, 0) := by decide +kernel
theorem zsl150_15 : xe_look (xc 98) 15 = some (.if_icmp .ge 12, 3, 0, 0, 0) := by decide +kernel
theorem zsl150_18 : xe_look (xc 98) 18 = some (.aload_n 0, 1, 0, 0, 0) := by decide +kernel
theorem zsl150_19 : xe_look (xc 98) 19 = some (.getfield 9, 3, 9, 0, 945) := by decide +kernel
theorem zsl150_22 : xe_look (xc 98) 22 = some (.iload_n 1, 1, 0, 0, 0) := by decide +kernel
theorem zsl150_23 : xe_look (xc 98) 23 = some (.iaload, 1, 0, 0, 0) := by decide +kernel
theorem zsl150_24 : xe_look (xc 98) 24 = some (.goto 4, 3, 0, 0, 0) := by decide +kernel
theorem zsl150_27 : xe_look (xc 98) 27 = some (.iconst (-1), 1, 0, 0, 0) := by decide +kernel
theorem zsl150_28 : xe_look (xc 98) 28 = some (.ireturn, 1, 0, 0, 0) := by decide +kernel
theorem zsl152_0 : xe_look (xc 98) 0 = some (.iload_n 1, 1, 0, 0, 0) := by decide +kernel
theorem zsl152_1 : xe_look (xc 98) 1 = some (.ifCond .lt 26, 3, 0, 0, 0) := by decide +kernel
theorem zsl152_4 : xe_look (xc 98) 4 = some (.iload_n 1, 1, 0, 0, 0) := by decide +kernel
theorem zsl152_5 : xe_look (xc 98) 5 = some (.aload_n 0, 1, 0, 0, 0) := by decide +kernel
theorem zsl152_6 : xe_look (xc 98) 6 = some (.getfield 18, 3, 9, 1, 944) := by decide +kernel
theorem zsl152_9 : xe_look (xc 98) 9 = some (.if_icmp .ge 18, 3, 0, 0, 0) := by decide +kernel
theorem zsl152_12 : xe_look (xc 98) 12 = some (.iload_n 1, 1, 0, 0, 0) := by decide +kernel
theorem zsl152_13 : xe_look (xc 98) 13 = some (.bipush 60, 2, 0, 0, 0) := by decide +kernel
theorem zsl152_15 : xe_look (xc 98) 15 = some (.if_icmp .ge 12, 3, 0, 0, 0) := by decide +kernel
theorem zsl152_18 : xe_look (xc 98) 18 = some (.aload_n 0, 1, 0, 0, 0) := by decide +kernel
theorem zsl152_19 : xe_look (xc 98) 19 = some (.getfield 9, 3, 9, 0, 945) := by decide +kernel
theorem zsl152_22 : xe_look (xc 98) 22 = some (.iload_n 1, 1, 0, 0, 0) := by decide +kernel
theorem zsl152_23 : xe_look (xc 98) 23 = some (.iaload, 1, 0, 0, 0) := by decide +kernel
theorem zsl152_24 : xe_look (xc 98) 24 = some (.goto 4, 3, 0, 0, 0) := by decide +kernel
theorem zsl152_27 : xe_look (xc 98) 27 = some (.iconst (-1), 1, 0, 0, 0) := by decide +kernel
theorem zsl152_28 : xe_look (xc 98) 28 = some (.ireturn, 1, 0, 0, 0) := by decide +kernel
def tW150 : Nat := 2 ^ (cn 150 + 1) + 2 ^ (cn 150 + 4) + 2 ^ (cn 150 + 5) + 2 ^ cn 151
def tq150k : List (Nat × Nat) := [(150, 4), (150, 1), (150, 5)]
def tq150a : List Nat := [151]
/-- place, how many, fault; the row -/
abbrev tS150 (g0 g : pH) (p m f : Int) (c : tC) : Prop := sE tq150k tq150a tW150 g0 g [p, m, f] [c]
def tB150 (g0 : pH) (B : tC) (n : Int) : Prop := cF g0 150 3 = n ∧ g0.2.2.1 150 2 = some 1 ∧ fA g0 1 = B ∧ 0 ≤ n ∧ n ≤ 120 ∧ ∀ j, j < 260 → 0 ≤ B j ∧ B j ≤ 255
def tW152 : Nat := 2 ^ (cn 152 + 1) + 2 ^ (cn 152 + 4) + 2 ^ (cn 152 + 5) + 2 ^ cn 153
def tq152k : List (Nat × Nat) := [(152, 4), (152, 1), (152, 5)]
def tq152a : List Nat := [153]
/-- place, how many, fault; the row -/
abbrev tS152 (g0 g : pH) (p m f : Int) (c : tC) : Prop := sE tq152k tq152a tW152 g0 g [p, m, f] [c]
def tB152 (g0 : pH) (B : tC) (n : Int) : Prop := cF g0 152 3 = n ∧ g0.2.2.1 152 2 = some 1 ∧ fA g0 1 = B ∧ 0 ≤ n ∧ n ≤ 120 ∧ ∀ j, j < 260 → 0 ≤ B j ∧ B j ≤ 255
theorem eo_150 : eL[150]? = some (0, 9) := by decide +kernel
theorem eo_152 : eL[152]? = some (0, 9) := by decide +kernel
theorem gu_1 : eG (cn 1) = (0, 255, []) := by decide +kernel
theorem gu_151 : eG (cn 151) = ((-40), 90, []) := by decide +kernel
theorem gu_153 : eG (cn 153) = ((-40), 90, []) := by decide +kernel
theorem gy_150_1 : eG (cn 150 + 1) = (0, 540, []) := by decide +kernel
theorem gy_150_4 : eG (cn 150 + 4) = (0, 120, []) := by decide +kernel
theorem gy_150_5 : eG (cn 150 + 5) = ((-9999), 0, []) := by decide +kernel
theorem gy_152_1 : eG (cn 152 + 1) = (0, 540, []) := by decide +kernel
theorem gy_152_4 : eG (cn 152 + 4) = (0, 120, []) := by decide +kernel
theorem gy_152_5 : eG (cn 152 + 5) = ((-9999), 0, []) := by decide +kernel
theorem wn_tW150_150_2 : tW150.testBit (cn 150 + 2) = false := by decide +kernel
theorem wn_tW150_150_3 : tW150.testBit (cn 150 + 3) = false := by decide +kernel
theorem wn_tW152_152_2 : tW152.testBit (cn 152 + 2) = false := by decide +kernel
theorem wn_tW152_152_3 : tW152.testBit (cn 152 + 3) = false := by decide +kernel
theorem wm_tW150_1 : tW150.testBit (cn 1) = false := by decide +kernel
theorem wm_tW152_1 : tW152.testBit (cn 1) = false := by decide +kernel
theorem ch_150_0 : (eG (cn 150 + 0)).2.2 = [152] := by decide +kernel
theorem cq_150_0 {d i : Nat} {lv : List (Nat × pv)} {r : List pv} {g : pH} (hG : g_I eG g) : px_push eL d none (.getfield i) 9 0 lv (pvR 150 :: r) g = some (pvR 151 :: r) := pget eo_150 (gI_r (r := 151) hG eo_150 (Nat.le_of_ble_eq_true rfl) (y := 0) rfl ch_150_0)
theorem ch_152_0 : (eG (cn 152 + 0)).2.2 = [154] := by decide +kernel
theorem cq_152_0 {d i : Nat} {lv : List (Nat × pv)} {r : List pv} {g : pH} (hG : g_I eG g) : px_push eL d none (.getfield i) 9 0 lv (pvR 152 :: r) g = some (pvR 153 :: r) := pget eo_152 (gI_r (r := 153) hG eo_152 (Nat.le_of_ble_eq_true rfl) (y := 0) rfl ch_152_0)
theorem ez_1 : eL[1]? = some (1, 260) := by decide +kernel
theorem ez_151 : eL[151]? = some (1, 60) := by decide +kernel
theorem ez_153 : eL[153]? = some (1, 60) := by decide +kernel
theorem wt_tW150_150_1 : tW150.testBit (cn 150 + 1) = true := by decide +kernel
theorem wt_tW150_150_4 : tW150.testBit (cn 150 + 4) = true := by decide +kernel
theorem wt_tW150_150_5 : tW150.testBit (cn 150 + 5) = true := by decide +kernel
theorem wt_tW152_152_1 : tW152.testBit (cn 152 + 1) = true := by decide +kernel
theorem wt_tW152_152_4 : tW152.testBit (cn 152 + 4) = true := by decide +kernel
theorem wt_tW152_152_5 : tW152.testBit (cn 152 + 5) = true := by decide +kernel
theorem wu_tW150_151 : tW150.testBit (cn 151) = true := by decide +kernel
theorem wu_tW152_153 : tW152.testBit (cn 153) = true := by decide +kernel
theorem ce150 {g0 g : pH} {B : tC} {n p m f : Int} {c : tC} (hB : tB150 g0 B n) (h : tS150 g0 g p m f c) : cF g 150 3 = n := (cF_M (S_J h).2 wn_tW150_150_3).trans hB.1
theorem cr150 {g0 g : pH} {B : tC} {n p m f : Int} {c : tC} (hB : tB150 g0 B n) (h : tS150 g0 g p m f c) : g.2.2.1 150 2 = some 1 := ((S_J h).2.1 150 2 wn_tW150_150_2).2.2.trans hB.2.1
theorem cb150 {g0 g : pH} {B : tC} {n p m f : Int} {c : tC} (hB : tB150 g0 B n) (h : tS150 g0 g p m f c) : fA g 1 = B := (fA_M (S_J h).2 wm_tW150_1).trans hB.2.2.1
theorem cm150 {g0 g : pH} {B : tC} {n p m f : Int} {c : tC} (hB : tB150 g0 B n) (h : tS150 g0 g p m f c) : 0 ≤ n ∧ n ≤ 120 ∧ (0 ≤ p ∧ p ≤ 120) ∧ (0 ≤ m ∧ m ≤ 540) ∧ (∀ q, 0 ≤ q → -1 ≤ tH B n q ∧ tH B n q ≤ 255) := ⟨hB.2.2.2.1, hB.2.2.2.2.1, by have := cb_i (S_J h).1 eo_150 (Nat.le_of_ble_eq_true rfl) rfl gy_150_4; rw [(show cF g 150 4 = p from S_f h 0 (Nat.le_of_ble_eq_true rfl))] at this; exact this, by have := cb_i (S_J h).1 eo_150 (Nat.le_of_ble_eq_true rfl) rfl gy_150_1; rw [(show cF g 150 1 = m from S_f h 1 (Nat.le_of_ble_eq_true rfl))] at this; exact this, fun q hq => tH_b hB.2.2.2.2.2 (by have := hB.2.2.2.2.1; omega) hq⟩
theorem sg150_run {d : Nat} {g0 g : pH} {B : tC} {n : Int} (hB : tB150 g0 B n) {p m f : Int} {c : tC} (hS : tS150 g0 g p m f c) {P : Option pv × pH → Prop} (hP : P (some (oI (tH B n p)), g)) {lv : List (Nat × pv)} (l0 : px_lg lv 0 = some (pvR 150)) : t_X d 97 0 lv [] g P := by
  obtain ⟨hn0, hn1, hp1, hm1, hH⟩ := cm150 hB hS
  refine t_0 zsg150_0 rfl (ld_a l0) ?_
  refine t_0 zsg150_1 rfl (pq_cv eo_150 rfl (show cF g 150 4 = p from S_f hS 0 (Nat.le_of_ble_eq_true rfl))) ?_
  show t_X d 97 4 lv [oI (p)] g P
  refine t_0 zsg150_4 rfl (ld_a l0) ?_
  refine t_0 zsg150_5 rfl (pq_cv eo_150 rfl (ce150 hB hS : cF g 150 3 = n)) ?_
  show t_X d 97 8 lv [oI (n), oI (p)] g P
  refine tb_ge zsg150_8 (by decide) ⟨by omega, by omega⟩ ⟨by omega, by omega⟩ (fun c1 => ?_) (fun c1 => ?_)
  · show t_X d 97 23 lv [] g P
    refine t_0 zsg150_23 rfl rfl ?_
    refine t_5 zsg150_24 rfl rfl ?_
    rw [tH_e (by omega)] at hP
    exact hP
  · show t_X d 97 11 lv [] g P
    refine t_0 zsg150_11 rfl (ld_a l0) ?_
    refine t_0 zsg150_12 rfl (pq_rv eo_150 rfl (cr150 hB hS)) ?_
    show t_X d 97 15 lv [pvR 1] g P
    refine t_0 zsg150_15 rfl (ld_a l0) ?_
    refine t_0 zsg150_16 rfl (pq_cv eo_150 rfl (show cF g 150 4 = p from S_f hS 0 (Nat.le_of_ble_eq_true rfl))) ?_
    show t_X d 97 19 lv [oI (p), pvR 1] g P
    have r2 := pb_a (S_J hS).1 ez_1 (j := p.toNat) (by omega) gu_1 (cb150 hB hS : fA g 1 = B)
    refine t_0 zsg150_19 rfl (pq_iv ez_1 rfl ⟨by omega, by omega⟩ (cb150 hB hS : fA g 1 = B)) ?_
    show t_X d 97 20 lv [oI (B p.toNat)] g P
    refine t_1 zsg150_20 rfl (pb_goto (pc := 20) (by decide)) ?_
    show t_X d 97 24 lv [oI (B p.toNat)] g P
    refine t_5 zsg150_24 rfl rfl ?_
    rw [tH_i (by omega)] at hP
    exact hP
theorem fl150_run {d : Nat} {g0 g : pH} {B : tC} {n : Int} (hB : tB150 g0 B n) {p m : Int} {c : tC} (hS : tS150 g0 g p m 0 c) {a b : Int} (ha : 1 ≤ a ∧ a ≤ 6) (hb : 0 ≤ b ∧ b ≤ 122) {P : Option pv × pH → Prop} (hP : ∀ g1 : pH, tS150 g0 g1 p m (-1000 * a - b) c → P (none, g1)) {lv : List (Nat × pv)} (l0 : px_lg lv 0 = some (pvR 150)) (l1 : px_lg lv 1 = some (oI a)) (l2 : px_lg lv 2 = some (oI b)) : t_X d 87 0 lv [] g P := by
  obtain ⟨hn0, hn1, hp1, hm1, hH⟩ := cm150 hB hS
  refine t_0 zfl150_0 rfl (ld_a l0) ?_
  refine t_0 zfl150_1 rfl (pq_cv eo_150 rfl (show cF g 150 5 = 0 from S_f hS 2 (Nat.le_of_ble_eq_true rfl))) ?_
  show t_X d 87 4 lv [oI 0] g P
  refine tz_ne zfl150_4 (by decide) ⟨by omega, by omega⟩ (fun c1 => absurd c1 (by omega)) (fun c1 => ?_)
  show t_X d 87 7 lv [] g P
  refine t_0 zfl150_7 rfl (ld_a l0) ?_
  refine t_0 zfl150_8 rfl (pq_s (by decide)) ?_
  refine t_0 zfl150_11 rfl (ld_i l1) ?_
  refine t_0 zfl150_12 rfl pq_mul ?_
  refine t_0 zfl150_13 rfl (ld_i l2) ?_
  refine t_0 zfl150_14 rfl pq_sub ?_
  refine ts_f (n := 2) rfl rfl (by decide) zfl150_15 rfl eo_150 hS wt_tW150_150_5 gy_150_5 (by decide) ⟨by omega, by omega⟩ (fun g2 hS2 => ?_)
  replace hS2 : tS150 g0 g2 p m ((-1000 * a) - b) c := hS2
  show t_X d 87 18 lv [] g2 P
  refine t_5 zfl150_18 rfl rfl ?_
  exact hP _ hS2
theorem fn150_run {d : Nat} {g0 g : pH} {B : tC} {n : Int} (hB : tB150 g0 B n) {p m f : Int} {c : tC} (hS : tS150 g0 g p m f c) (hf : f < 0) (hf2 : -9999 ≤ f) {a b : Int} {P : Option pv × pH → Prop} (hP : P (none, g)) {lv : List (Nat × pv)} (l0 : px_lg lv 0 = some (pvR 150)) : t_X d 87 0 lv [] g P := by
  obtain ⟨hn0, hn1, hp1, hm1, hH⟩ := cm150 hB hS
  refine t_0 zfl150_0 rfl (ld_a l0) ?_
  refine t_0 zfl150_1 rfl (pq_cv eo_150 rfl (show cF g 150 5 = f from S_f hS 2 (Nat.le_of_ble_eq_true rfl))) ?_
  show t_X d 87 4 lv [oI (f)] g P
  refine tz_ne zfl150_4 (by decide) ⟨by omega, by omega⟩ (fun c1 => ?_) (fun c1 => absurd c1 (by omega))
  show t_X d 87 18 lv [] g P
  refine t_5 zfl150_18 rfl rfl ?_
  exact hP
theorem ap150_run {d : Nat} {g0 g : pH} {B : tC} {n : Int} (hB : tB150 g0 B n) {p m f : Int} {c : tC} (hS : tS150 g0 g p m f c) {e : Int} (he : -40 ≤ e ∧ e ≤ 90) (hm : m < 540) {P : Option pv × pH → Prop} (h1 : m < 60 → ∀ g1 : pH, tS150 g0 g1 p (m + 1) f (updI c m.toNat e) → P (none, g1)) (h2 : 60 ≤ m → ∀ g1 : pH, tS150 g0 g1 p (m + 1) f c → P (none, g1)) {lv : List (Nat × pv)} (l0 : px_lg lv 0 = some (pvR 150)) (l1 : px_lg lv 1 = some (oI e)) : t_X d 86 0 lv [] g P := by
  obtain ⟨hn0, hn1, hp1, hm1, hH⟩ := cm150 hB hS
  refine t_0 zap150_0 rfl (ld_a l0) ?_
  refine t_0 zap150_1 rfl (pq_cv eo_150 rfl (show cF g 150 1 = m from S_f hS 1 (Nat.le_of_ble_eq_true rfl))) ?_
  show t_X d 86 4 lv [oI (m)] g P
  refine t_0 zap150_4 rfl (pq_b (by decide)) ?_
  refine tb_ge zap150_6 (by decide) ⟨by omega, by omega⟩ ⟨by omega, by omega⟩ (fun c1 => ?_) (fun c1 => ?_)
  · show t_X d 86 19 lv [] g P
    refine t_0 zap150_19 rfl (ld_a l0) ?_
    refine t_0 zap150_20 rfl rfl ?_
    refine t_0 zap150_21 rfl (pq_cv eo_150 rfl (show cF g 150 1 = m from S_f hS 1 (Nat.le_of_ble_eq_true rfl))) ?_
    show t_X d 86 24 lv [oI (m), pvR 150] g P
    refine t_0 zap150_24 rfl rfl ?_
    refine t_0 zap150_25 rfl pq_add ?_
    refine ts_f (n := 1) rfl rfl (by decide) zap150_26 rfl eo_150 hS wt_tW150_150_1 gy_150_1 (by decide) ⟨by omega, by omega⟩ (fun g2 hS2 => ?_)
    replace hS2 : tS150 g0 g2 p (m + 1) f c := hS2
    show t_X d 86 29 lv [] g2 P
    refine t_5 zap150_29 rfl rfl ?_
    exact h2 (by omega) _ hS2
  · show t_X d 86 9 lv [] g P
    refine t_0 zap150_9 rfl (ld_a l0) ?_
    refine t_0 zap150_10 rfl (cq_150_0 (S_J hS).1) ?_
    show t_X d 86 13 lv [pvR 151] g P
    refine t_0 zap150_13 rfl (ld_a l0) ?_
    refine t_0 zap150_14 rfl (pq_cv eo_150 rfl (show cF g 150 1 = m from S_f hS 1 (Nat.le_of_ble_eq_true rfl))) ?_
    show t_X d 86 17 lv [oI (m), pvR 151] g P
    refine t_0 zap150_17 rfl (ld_i l1) ?_
    refine ts_a (n := 0) rfl rfl (by decide) zap150_18 hS ez_151 rfl wu_tW150_151 gu_151 (by decide) ⟨by omega, by omega⟩ ⟨by omega, by omega⟩ (fun g3 hS3 => ?_)
    replace hS3 : tS150 g0 g3 p m f (updI c m.toNat e) := hS3
    show t_X d 86 19 lv [] g3 P
    refine t_0 zap150_19 rfl (ld_a l0) ?_
    refine t_0 zap150_20 rfl rfl ?_
    refine t_0 zap150_21 rfl (pq_cv eo_150 rfl (show cF g3 150 1 = m from S_f hS3 1 (Nat.le_of_ble_eq_true rfl))) ?_
    show t_X d 86 24 lv [oI (m), pvR 150] g3 P
    refine t_0 zap150_24 rfl rfl ?_
    refine t_0 zap150_25 rfl pq_add ?_
    refine ts_f (n := 1) rfl rfl (by decide) zap150_26 rfl eo_150 hS3 wt_tW150_150_1 gy_150_1 (by decide) ⟨by omega, by omega⟩ (fun g4 hS4 => ?_)
    replace hS4 : tS150 g0 g4 p (m + 1) f (updI c m.toNat e) := hS4
    show t_X d 86 29 lv [] g4 P
    refine t_5 zap150_29 rfl rfl ?_
    exact h1 (by omega) _ hS4
theorem sl150_run {d : Nat} {g0 g : pH} {B : tC} {n : Int} (hB : tB150 g0 B n) {p m f : Int} {c : tC} (hS : tS150 g0 g p m f c) {k : Int} (hk : -2147483648 ≤ k ∧ k ≤ 2147483647) {P : Option pv × pH → Prop} (h1 : 0 ≤ k ∧ k < m ∧ k < 60 → P (some (oI (c k.toNat)), g)) (h0 : ¬ (0 ≤ k ∧ k < m ∧ k < 60) → P (some (oI (-1)), g)) {lv : List (Nat × pv)} (l0 : px_lg lv 0 = some (pvR 150)) (l1 : px_lg lv 1 = some (oI k)) : t_X d 98 0 lv [] g P := by
  obtain ⟨hn0, hn1, hp1, hm1, hH⟩ := cm150 hB hS
  refine t_0 zsl150_0 rfl (ld_i l1) ?_
  refine tz_lt zsl150_1 (by decide) ⟨by omega, by omega⟩ (fun c1 => ?_) (fun c1 => ?_)
  · show t_X d 98 27 lv [] g P
    refine t_0 zsl150_27 rfl rfl ?_
    refine t_5 zsl150_28 rfl rfl ?_
    exact h0 (by omega)
  · show t_X d 98 4 lv [] g P
    refine t_0 zsl150_4 rfl (ld_i l1) ?_
    refine t_0 zsl150_5 rfl (ld_a l0) ?_
    refine t_0 zsl150_6 rfl (pq_cv eo_150 rfl (show cF g 150 1 = m from S_f hS 1 (Nat.le_of_ble_eq_true rfl))) ?_
    show t_X d 98 9 lv [oI (m), oI (k)] g P
    refine tb_ge zsl150_9 (by decide) ⟨by omega, by omega⟩ ⟨by omega, by omega⟩ (fun c2 => ?_) (fun c2 => ?_)
    · show t_X d 98 27 lv [] g P
      refine t_0 zsl150_27 rfl rfl ?_
      refine t_5 zsl150_28 rfl rfl ?_
      exact h0 (by omega)
    · show t_X d 98 12 lv [] g P
      refine t_0 zsl150_12 rfl (ld_i l1) ?_
      refine t_0 zsl150_13 rfl (pq_b (by decide)) ?_
      refine tb_ge zsl150_15 (by decide) ⟨by omega, by omega⟩ ⟨by omega, by omega⟩ (fun c3 => ?_) (fun c3 => ?_)
      · show t_X d 98 27 lv [] g P
        refine t_0 zsl150_27 rfl rfl ?_
        refine t_5 zsl150_28 rfl rfl ?_
        exact h0 (by omega)
      · show t_X d 98 18 lv [] g P
        refine t_0 zsl150_18 rfl (ld_a l0) ?_
        refine t_0 zsl150_19 rfl (cq_150_0 (S_J hS).1) ?_
        show t_X d 98 22 lv [pvR 151] g P
        refine t_0 zsl150_22 rfl (ld_i l1) ?_
        have r4 := pb_a (S_J hS).1 ez_151 (j := k.toNat) (by omega) gu_151 (show fA g 151 = c from S_a hS 0 (Nat.le_of_ble_eq_true rfl))
        refine t_0 zsl150_23 rfl (pq_iv ez_151 rfl ⟨by omega, by omega⟩ (show fA g 151 = c from S_a hS 0 (Nat.le_of_ble_eq_true rfl))) ?_
        show t_X d 98 24 lv [oI (c k.toNat)] g P
        refine t_1 zsl150_24 rfl (pb_goto (pc := 24) (by decide)) ?_
        show t_X d 98 28 lv [oI (c k.toNat)] g P
        refine t_5 zsl150_28 rfl rfl ?_
        exact h1 (by omega)
set_option maxHeartbeats 2000000 in
theorem nu150_run {d : Nat} (hd : 1 ≤ d) {g0 g : pH} {B : tC} {n : Int} (hB : tB150 g0 B n) {p m : Int} {c : tC} (hS : tS150 g0 g p m 0 c) {P : Option pv × pH → Prop} (hF : ∀ (g1 : pH) (f q v : Int), tS150 g0 g1 q m f c → tNf (tH B n) p f → P (some (oI v), g1)) (hO : ∀ (g1 : pH) (v q : Int), tS150 g0 g1 q m 0 c → tNu (tH B n) p v q → P (some (oI v), g1)) {lv : List (Nat × pv)} (l0 : px_lg lv 0 = some (pvR 150)) : t_X d 93 0 lv [] g P := by
  obtain ⟨hn0, hn1, hp1, hm1, hH⟩ := cm150 hB hS
  refine t_0 znu150_0 rfl (ld_a l0) ?_
  refine t_0 znu150_1 rfl (pq_cv eo_150 rfl (show cF g 150 4 = p from S_f hS 0 (Nat.le_of_ble_eq_true rfl))) ?_
  show t_X d 93 4 lv [oI (p)] g P
  refine t_2 znu150_4 rfl (w := (px_s1 lv 1 (oI (p)), [])) rfl ?_
  replace l0 : px_lg (px_s1 lv 1 (oI (p))) 0 = some (pvR 150) := s1_ne (by decide) (fun _ => rfl) l0
  have l1 : px_lg (px_s1 lv 1 (oI (p))) 1 = some (oI (p)) := s1_eq
  generalize px_s1 lv 1 (oI (p)) = lv1 at l0 l1 ⊢
  show t_X d 93 5 lv1 [] g P
  refine t_0 znu150_5 rfl rfl ?_
  refine t_2 znu150_6 rfl (w := (px_s1 lv1 2 (oI 0), [])) rfl ?_
  replace l0 : px_lg (px_s1 lv1 2 (oI 0)) 0 = some (pvR 150) := s1_ne (by decide) (fun _ => rfl) l0
  replace l1 : px_lg (px_s1 lv1 2 (oI 0)) 1 = some (oI (p)) := s1_ne (by decide) (fun _ => rfl) l1
  have l2 : px_lg (px_s1 lv1 2 (oI 0)) 2 = some (oI 0) := s1_eq
  generalize px_s1 lv1 2 (oI 0) = lv2 at l0 l1 l2 ⊢
  show t_X d 93 7 lv2 [] g P
  refine t_0 znu150_7 rfl rfl ?_
  refine t_2 znu150_8 rfl (w := (px_s1 lv2 3 (oI 0), [])) rfl ?_
  replace l0 : px_lg (px_s1 lv2 3 (oI 0)) 0 = some (pvR 150) := s1_ne (by decide) (fun _ => rfl) l0
  replace l1 : px_lg (px_s1 lv2 3 (oI 0)) 1 = some (oI (p)) := s1_ne (by decide) (fun _ => rfl) l1
  replace l2 : px_lg (px_s1 lv2 3 (oI 0)) 2 = some (oI 0) := s1_ne (by decide) (fun _ => rfl) l2
  have l3 : px_lg (px_s1 lv2 3 (oI 0)) 3 = some (oI 0) := s1_eq
  generalize px_s1 lv2 3 (oI 0) = lv3 at l0 l1 l2 l3 ⊢
  show t_X d 93 9 lv3 [] g P
  refine t_0 znu150_9 rfl (ld_i l3) ?_
  refine t_0 znu150_10 rfl rfl ?_
  refine tb_ge znu150_11 (by decide) ⟨by omega, by omega⟩ ⟨by omega, by omega⟩ (fun c4 => absurd c4 (by omega)) (fun c4 => ?_)
  show t_X d 93 14 lv3 [] g P
  refine t_0 znu150_14 rfl (ld_a l0) ?_
  refine t_3 znu150_15 rfl (ar := ([pvR 150], [])) (pcal_w (as := []) rfl rfl rfl eo_150) ⟨by omega, Nat.le_of_ble_eq_true rfl, Nat.le_of_ble_eq_true rfl, rfl⟩ ?_
  refine sg150_run hB hS ?_ rfl
  have b5 := hH p (by omega)
  have z5 := tH_n (B := B) (n := n) (p := p)
  show t_X d 93 18 lv3 [oI (tH B n p)] g P
  refine t_0 znu150_18 rfl (pq_b (by decide)) ?_
  refine t_0 znu150_20 rfl (pq_b (by decide)) ?_
  refine t_3 znu150_22 rfl (ar := ([oI (tH B n p), oI 48, oI 57], [])) (pcal_s ⟨Or.inr rfl, rfl, Nat.le_of_ble_eq_true rfl⟩) ⟨by omega, Nat.le_of_ble_eq_true rfl, Nat.le_of_ble_eq_true rfl, rfl⟩ ?_
  refine ii_run ⟨by omega, by omega⟩ ⟨by omega, by omega⟩ ⟨by omega, by omega⟩ rfl rfl rfl (fun t6 => ?_) (fun t6 => ?_)
  · show t_X d 93 25 lv3 [oI 1] g P
    refine tz_eq znu150_25 (by decide) ⟨by omega, by omega⟩ (fun c7 => absurd c7 (by omega)) (fun c7 => ?_)
    show t_X d 93 28 lv3 [] g P
    refine t_0 znu150_28 rfl (pq_b (by decide)) ?_
    refine t_0 znu150_30 rfl (ld_i l2) ?_
    refine t_0 znu150_31 rfl pq_mul ?_
    refine t_0 znu150_32 rfl (ld_a l0) ?_
    refine t_3 znu150_33 rfl (ar := ([pvR 150], [oI (10 * 0)])) (pcal_w (as := []) rfl rfl rfl eo_150) ⟨by omega, Nat.le_of_ble_eq_true rfl, Nat.le_of_ble_eq_true rfl, rfl⟩ ?_
    refine sg150_run hB hS ?_ rfl
    show t_X d 93 36 lv3 [oI (tH B n p), oI (10 * 0)] g P
    refine t_0 znu150_36 rfl pq_add ?_
    refine t_0 znu150_37 rfl (pq_b (by decide)) ?_
    refine t_0 znu150_39 rfl pq_sub ?_
    refine t_2 znu150_40 rfl (w := (px_s1 lv3 2 (oI (((10 * 0) + (tH B n p)) - 48)), [])) rfl ?_
    replace l0 : px_lg (px_s1 lv3 2 (oI (((10 * 0) + (tH B n p)) - 48))) 0 = some (pvR 150) := s1_ne (by decide) (fun _ => rfl) l0
    replace l1 : px_lg (px_s1 lv3 2 (oI (((10 * 0) + (tH B n p)) - 48))) 1 = some (oI (p)) := s1_ne (by decide) (fun _ => rfl) l1
    replace l3 : px_lg (px_s1 lv3 2 (oI (((10 * 0) + (tH B n p)) - 48))) 3 = some (oI 0) := s1_ne (by decide) (fun _ => rfl) l3
    have l2 : px_lg (px_s1 lv3 2 (oI (((10 * 0) + (tH B n p)) - 48))) 2 = some (oI (((10 * 0) + (tH B n p)) - 48)) := s1_eq
    generalize px_s1 lv3 2 (oI (((10 * 0) + (tH B n p)) - 48)) = lv8 at l0 l1 l3 l2 ⊢
    show t_X d 93 41 lv8 [] g P
    refine t_0 znu150_41 rfl (ld_a l0) ?_
    refine t_0 znu150_42 rfl rfl ?_
    refine t_0 znu150_43 rfl (pq_cv eo_150 rfl (show cF g 150 4 = p from S_f hS 0 (Nat.le_of_ble_eq_true rfl))) ?_
    show t_X d 93 46 lv8 [oI (p), pvR 150] g P
    refine t_0 znu150_46 rfl rfl ?_
    refine t_0 znu150_47 rfl pq_add ?_
    refine ts_f (n := 0) rfl rfl (by decide) znu150_48 rfl eo_150 hS wt_tW150_150_4 gy_150_4 (by decide) ⟨by omega, by omega⟩ (fun g9 hS9 => ?_)
    replace hS9 : tS150 g0 g9 (p + 1) m 0 c := hS9
    show t_X d 93 51 lv8 [] g9 P
    refine t_2 znu150_51 rfl (w := (px_s1 lv8 3 (oI 1), [])) (pq_inc l3 (by decide)) ?_
    replace l0 : px_lg (px_s1 lv8 3 (oI 1)) 0 = some (pvR 150) := s1_ne (by decide) (fun _ => rfl) l0
    replace l1 : px_lg (px_s1 lv8 3 (oI 1)) 1 = some (oI (p)) := s1_ne (by decide) (fun _ => rfl) l1
    replace l2 : px_lg (px_s1 lv8 3 (oI 1)) 2 = some (oI (((10 * 0) + (tH B n p)) - 48)) := s1_ne (by decide) (fun _ => rfl) l2
    have l3 : px_lg (px_s1 lv8 3 (oI 1)) 3 = some (oI 1) := s1_eq
    generalize px_s1 lv8 3 (oI 1) = lv10 at l0 l1 l2 l3 ⊢
    show t_X d 93 54 lv10 [] g9 P
    refine t_1 znu150_54 rfl (pb_goto (pc := 54) (by decide)) ?_
    show t_X d 93 9 lv10 [] g9 P
    refine t_0 znu150_9 rfl (ld_i l3) ?_
    refine t_0 znu150_10 rfl rfl ?_
    refine tb_ge znu150_11 (by decide) ⟨by omega, by omega⟩ ⟨by omega, by omega⟩ (fun c11 => absurd c11 (by omega)) (fun c11 => ?_)
    show t_X d 93 14 lv10 [] g9 P
    refine t_0 znu150_14 rfl (ld_a l0) ?_
    refine t_3 znu150_15 rfl (ar := ([pvR 150], [])) (pcal_w (as := []) rfl rfl rfl eo_150) ⟨by omega, Nat.le_of_ble_eq_true rfl, Nat.le_of_ble_eq_true rfl, rfl⟩ ?_
    refine sg150_run hB hS9 ?_ rfl
    have b12 := hH (p + 1) (by omega)
    have z12 := tH_n (B := B) (n := n) (p := p + 1)
    show t_X d 93 18 lv10 [oI (tH B n (p + 1))] g9 P
    refine t_0 znu150_18 rfl (pq_b (by decide)) ?_
    refine t_0 znu150_20 rfl (pq_b (by decide)) ?_
    refine t_3 znu150_22 rfl (ar := ([oI (tH B n (p + 1)), oI 48, oI 57], [])) (pcal_s ⟨Or.inr rfl, rfl, Nat.le_of_ble_eq_true rfl⟩) ⟨by omega, Nat.le_of_ble_eq_true rfl, Nat.le_of_ble_eq_true rfl, rfl⟩ ?_
    refine ii_run ⟨by omega, by omega⟩ ⟨by omega, by omega⟩ ⟨by omega, by omega⟩ rfl rfl rfl (fun t13 => ?_) (fun t13 => ?_)
    · show t_X d 93 25 lv10 [oI 1] g9 P
      refine tz_eq znu150_25 (by decide) ⟨by omega, by omega⟩ (fun c14 => absurd c14 (by omega)) (fun c14 => ?_)
      show t_X d 93 28 lv10 [] g9 P
      refine t_0 znu150_28 rfl (pq_b (by decide)) ?_
      refine t_0 znu150_30 rfl (ld_i l2) ?_
      refine t_0 znu150_31 rfl pq_mul ?_
      refine t_0 znu150_32 rfl (ld_a l0) ?_
      refine t_3 znu150_33 rfl (ar := ([pvR 150], [oI (10 * (((10 * 0) + (tH B n p)) - 48))])) (pcal_w (as := []) rfl rfl rfl eo_150) ⟨by omega, Nat.le_of_ble_eq_true rfl, Nat.le_of_ble_eq_true rfl, rfl⟩ ?_
      refine sg150_run hB hS9 ?_ rfl
      show t_X d 93 36 lv10 [oI (tH B n (p + 1)), oI (10 * (((10 * 0) + (tH B n p)) - 48))] g9 P
      refine t_0 znu150_36 rfl pq_add ?_
      refine t_0 znu150_37 rfl (pq_b (by decide)) ?_
      refine t_0 znu150_39 rfl pq_sub ?_
      refine t_2 znu150_40 rfl (w := (px_s1 lv10 2 (oI (((10 * (((10 * 0) + (tH B n p)) - 48)) + (tH B n (p + 1))) - 48)), [])) rfl ?_
      replace l0 : px_lg (px_s1 lv10 2 (oI (((10 * (((10 * 0) + (tH B n p)) - 48)) + (tH B n (p + 1))) - 48))) 0 = some (pvR 150) := s1_ne (by decide) (fun _ => rfl) l0
      replace l1 : px_lg (px_s1 lv10 2 (oI (((10 * (((10 * 0) + (tH B n p)) - 48)) + (tH B n (p + 1))) - 48))) 1 = some (oI (p)) := s1_ne (by decide) (fun _ => rfl) l1
      replace l3 : px_lg (px_s1 lv10 2 (oI (((10 * (((10 * 0) + (tH B n p)) - 48)) + (tH B n (p + 1))) - 48))) 3 = some (oI 1) := s1_ne (by decide) (fun _ => rfl) l3
      have l2 : px_lg (px_s1 lv10 2 (oI (((10 * (((10 * 0) + (tH B n p)) - 48)) + (tH B n (p + 1))) - 48))) 2 = some (oI (((10 * (((10 * 0) + (tH B n p)) - 48)) + (tH B n (p + 1))) - 48)) := s1_eq
      generalize px_s1 lv10 2 (oI (((10 * (((10 * 0) + (tH B n p)) - 48)) + (tH B n (p + 1))) - 48)) = lv15 at l0 l1 l3 l2 ⊢
      show t_X d 93 41 lv15 [] g9 P
      refine t_0 znu150_41 rfl (ld_a l0) ?_
      refine t_0 znu150_42 rfl rfl ?_
      refine t_0 znu150_43 rfl (pq_cv eo_150 rfl (show cF g9 150 4 = p + 1 from S_f hS9 0 (Nat.le_of_ble_eq_true rfl))) ?_
      show t_X d 93 46 lv15 [oI (p + 1), pvR 150] g9 P
      refine t_0 znu150_46 rfl rfl ?_
      refine t_0 znu150_47 rfl pq_add ?_
      refine ts_f (n := 0) rfl rfl (by decide) znu150_48 rfl eo_150 hS9 wt_tW150_150_4 gy_150_4 (by decide) ⟨by omega, by omega⟩ (fun g16 hS16 => ?_)
      replace hS16 : tS150 g0 g16 ((p + 1) + 1) m 0 c := hS16
      show t_X d 93 51 lv15 [] g16 P
      refine t_2 znu150_51 rfl (w := (px_s1 lv15 3 (oI 2), [])) (pq_inc l3 (by decide)) ?_
      replace l0 : px_lg (px_s1 lv15 3 (oI 2)) 0 = some (pvR 150) := s1_ne (by decide) (fun _ => rfl) l0
      replace l1 : px_lg (px_s1 lv15 3 (oI 2)) 1 = some (oI (p)) := s1_ne (by decide) (fun _ => rfl) l1
      replace l2 : px_lg (px_s1 lv15 3 (oI 2)) 2 = some (oI (((10 * (((10 * 0) + (tH B n p)) - 48)) + (tH B n (p + 1))) - 48)) := s1_ne (by decide) (fun _ => rfl) l2
      have l3 : px_lg (px_s1 lv15 3 (oI 2)) 3 = some (oI 2) := s1_eq
      generalize px_s1 lv15 3 (oI 2) = lv17 at l0 l1 l2 l3 ⊢
      show t_X d 93 54 lv17 [] g16 P
      refine t_1 znu150_54 rfl (pb_goto (pc := 54) (by decide)) ?_
      show t_X d 93 9 lv17 [] g16 P
      refine t_0 znu150_9 rfl (ld_i l3) ?_
      refine t_0 znu150_10 rfl rfl ?_
      refine tb_ge znu150_11 (by decide) ⟨by omega, by omega⟩ ⟨by omega, by omega⟩ (fun c18 => ?_) (fun c18 => absurd c18 (by omega))
      show t_X d 93 57 lv17 [] g16 P
      refine t_0 znu150_57 rfl (ld_a l0) ?_
      refine t_0 znu150_58 rfl (pq_cv eo_150 rfl (show cF g16 150 4 = (p + 1) + 1 from S_f hS16 0 (Nat.le_of_ble_eq_true rfl))) ?_
      show t_X d 93 61 lv17 [oI ((p + 1) + 1)] g16 P
      refine t_0 znu150_61 rfl (ld_i l1) ?_
      refine tb_ne znu150_62 (by decide) ⟨by omega, by omega⟩ ⟨by omega, by omega⟩ (fun c19 => ?_) (fun c19 => absurd c19 (by omega))
      show t_X d 93 77 lv17 [] g16 P
      refine t_0 znu150_77 rfl (ld_i l2) ?_
      refine t_0 znu150_78 rfl (pq_b (by decide)) ?_
      refine tb_lt znu150_80 (by decide) ⟨by omega, by omega⟩ ⟨by omega, by omega⟩ (fun c20 => ?_) (fun c20 => ?_)
      · show t_X d 93 89 lv17 [] g16 P
        refine t_0 znu150_89 rfl (ld_i l2) ?_
        refine t_5 znu150_90 rfl rfl ?_
        refine hO _ _ _ hS16 ?_
        unfold tNu tDg
        omega
      · show t_X d 93 83 lv17 [] g16 P
        refine t_0 znu150_83 rfl (ld_a l0) ?_
        refine t_0 znu150_84 rfl rfl ?_
        refine t_0 znu150_85 rfl (ld_i l1) ?_
        refine t_3 znu150_86 rfl (ar := ([pvR 150, oI 3, oI (p)], [])) (pcal_w (as := [oI (p), oI 3]) rfl rfl rfl eo_150) ⟨by omega, Nat.le_of_ble_eq_true rfl, Nat.le_of_ble_eq_true rfl, rfl⟩ ?_
        refine fl150_run hB hS16 ⟨by omega, by omega⟩ ⟨by omega, by omega⟩ (fun g21 hS21 => ?_) rfl rfl rfl
        replace hS21 : tS150 g0 g21 ((p + 1) + 1) m (-1000 * 3 - p) c := hS21
        show t_X d 93 89 lv17 [] g21 P
        refine t_0 znu150_89 rfl (ld_i l2) ?_
        refine t_5 znu150_90 rfl rfl ?_
        exact hF _ _ _ _ hS21 (by unfold tNf tDg; omega)
    · show t_X d 93 25 lv10 [oI 0] g9 P
      refine tz_eq znu150_25 (by decide) ⟨by omega, by omega⟩ (fun c22 => ?_) (fun c22 => absurd c22 (by omega))
      show t_X d 93 57 lv10 [] g9 P
      refine t_0 znu150_57 rfl (ld_a l0) ?_
      refine t_0 znu150_58 rfl (pq_cv eo_150 rfl (show cF g9 150 4 = p + 1 from S_f hS9 0 (Nat.le_of_ble_eq_true rfl))) ?_
      show t_X d 93 61 lv10 [oI (p + 1)] g9 P
      refine t_0 znu150_61 rfl (ld_i l1) ?_
      refine tb_ne znu150_62 (by decide) ⟨by omega, by omega⟩ ⟨by omega, by omega⟩ (fun c23 => ?_) (fun c23 => absurd c23 (by omega))
      show t_X d 93 77 lv10 [] g9 P
      refine t_0 znu150_77 rfl (ld_i l2) ?_
      refine t_0 znu150_78 rfl (pq_b (by decide)) ?_
      refine tb_lt znu150_80 (by decide) ⟨by omega, by omega⟩ ⟨by omega, by omega⟩ (fun c24 => ?_) (fun c24 => absurd c24 (by omega))
      show t_X d 93 89 lv10 [] g9 P
      refine t_0 znu150_89 rfl (ld_i l2) ?_
      refine t_5 znu150_90 rfl rfl ?_
      refine hO _ _ _ hS9 ?_
      unfold tNu tDg
      omega
  · show t_X d 93 25 lv3 [oI 0] g P
    refine tz_eq znu150_25 (by decide) ⟨by omega, by omega⟩ (fun c25 => ?_) (fun c25 => absurd c25 (by omega))
    show t_X d 93 57 lv3 [] g P
    refine t_0 znu150_57 rfl (ld_a l0) ?_
    refine t_0 znu150_58 rfl (pq_cv eo_150 rfl (show cF g 150 4 = p from S_f hS 0 (Nat.le_of_ble_eq_true rfl))) ?_
    show t_X d 93 61 lv3 [oI (p)] g P
    refine t_0 znu150_61 rfl (ld_i l1) ?_
    refine tb_ne znu150_62 (by decide) ⟨by omega, by omega⟩ ⟨by omega, by omega⟩ (fun c26 => absurd c26 (by omega)) (fun c26 => ?_)
    show t_X d 93 65 lv3 [] g P
    refine t_0 znu150_65 rfl (ld_a l0) ?_
    refine t_0 znu150_66 rfl rfl ?_
    refine t_0 znu150_67 rfl (ld_a l0) ?_
    refine t_0 znu150_68 rfl (pq_cv eo_150 rfl (show cF g 150 4 = p from S_f hS 0 (Nat.le_of_ble_eq_true rfl))) ?_
    show t_X d 93 71 lv3 [oI (p), oI 1, pvR 150] g P
    refine t_3 znu150_71 rfl (ar := ([pvR 150, oI 1, oI (p)], [])) (pcal_w (as := [oI (p), oI 1]) rfl rfl rfl eo_150) ⟨by omega, Nat.le_of_ble_eq_true rfl, Nat.le_of_ble_eq_true rfl, rfl⟩ ?_
    refine fl150_run hB hS ⟨by omega, by omega⟩ ⟨by omega, by omega⟩ (fun g27 hS27 => ?_) rfl rfl rfl
    replace hS27 : tS150 g0 g27 p m (-1000 * 1 - p) c := hS27
    show t_X d 93 74 lv3 [] g27 P
    refine t_1 znu150_74 rfl (pb_goto (pc := 74) (by decide)) ?_
    show t_X d 93 89 lv3 [] g27 P
    refine t_0 znu150_89 rfl (ld_i l2) ?_
    refine t_5 znu150_90 rfl rfl ?_
    exact hF _ _ _ _ hS27 (by unfold tNf tDg; omega)
set_option maxHeartbeats 2000000 in
theorem rl150p {d : Nat} (hd : 1 ≤ d) {g0 : pH} {B : tC} {n : Int} (hB : tB150 g0 B n) {p m a z : Int} (ha : 0 ≤ a ∧ a ≤ 31 ∧ 0 ≤ z ∧ z ≤ 31 ∧ a ≤ z) (hm : 0 ≤ m ∧ m ≤ 60) {c0 : tC} {P : Option pv × pH → Prop} (hO : ∀ (g1 : pH) (c1 : tC), tS150 g0 g1 p (m + (z - a + 1)) 0 c1 → (∀ j : Nat, (j : Int) < m → c1 j = c0 j) → (∀ i : Nat, (i : Int) < z - a + 1 → m + i < 60 → c1 (m + i).toNat = a + (i : Int)) → P (none, g1)) : ∀ (y k : Nat) (g : pH) (lv : List (Nat × pv)) {c : tC}, z - a + 1 - k ≤ y → (k : Int) ≤ z - a + 1 → tS150 g0 g p (m + (k : Int)) 0 c → ((∀ j : Nat, (j : Int) < m → c j = c0 j) ∧ ∀ i : Nat, i < k → m + i < 60 → c (m + i).toNat = a + (i : Int)) → px_lg lv 0 = some (pvR 150) → px_lg lv 1 = some (oI a) → px_lg lv 2 = some (oI z) → px_lg lv 3 = some (oI 1) → px_lg lv 4 = some (oI (z - a + 1)) → px_lg lv 5 = some (oI (k : Int)) → t_X d 95 70 lv [] g P := by
  intro y
  induction y with
  | zero =>
    intro k g lv c hy hk hS hc l0 l1 l2 l3 l4 l5
    have ek0 : (k : Int) = z - a + 1 := by omega
    refine t_0 zrw150_70 rfl (ld_i l5) ?_
    refine t_0 zrw150_72 rfl (ld_i l4) ?_
    refine tb_ge zrw150_74 (by decide) ⟨by omega, by omega⟩ ⟨by omega, by omega⟩ (fun c1 => ?_) (fun c1 => absurd c1 (by omega))
    show t_X d 95 93 lv [] g P
    refine t_5 zrw150_93 rfl rfl ?_
    have ek : (k : Int) = z - a + 1 := by omega
    rw [ek] at hS
    exact hO _ _ hS hc.1 (fun i hi h6 => hc.2 i (by omega) h6)
  | succ y ih =>
    intro k g lv c hy hk hS hc l0 l1 l2 l3 l4 l5
    by_cases hkk : (k : Int) < z - a + 1
    · skip
      refine t_0 zrw150_70 rfl (ld_i l5) ?_
      refine t_0 zrw150_72 rfl (ld_i l4) ?_
      refine tb_ge zrw150_74 (by decide) ⟨by omega, by omega⟩ ⟨by omega, by omega⟩ (fun c1 => absurd c1 (by omega)) (fun c1 => ?_)
      show t_X d 95 77 lv [] g P
      refine t_0 zrw150_77 rfl (ld_a l0) ?_
      refine t_0 zrw150_78 rfl (ld_i l1) ?_
      refine t_0 zrw150_79 rfl (ld_i l5) ?_
      refine t_0 zrw150_81 rfl (ld_i l3) ?_
      refine t_0 zrw150_82 rfl pq_mul ?_
      refine t_0 zrw150_83 rfl pq_add ?_
      refine t_3 zrw150_84 rfl (ar := ([pvR 150, oI (a + ((k : Int) * 1))], [])) (pcal_w (as := [oI (a + ((k : Int) * 1))]) rfl rfl rfl eo_150) ⟨by omega, Nat.le_of_ble_eq_true rfl, Nat.le_of_ble_eq_true rfl, rfl⟩ ?_
      refine ap150_run hB hS ⟨by omega, by omega⟩ (by omega) (fun t2 g2 hS2 => ?_) (fun t2 g2 hS2 => ?_) rfl rfl
      · replace hS2 : tS150 g0 g2 p ((m + (k : Int)) + 1) 0 (updI c (m + (k : Int)).toNat (a + ((k : Int) * 1))) := hS2
        show t_X d 95 87 lv [] g2 P
        refine t_2 zrw150_87 rfl (w := (px_s1 lv 5 (oI ((k : Int) + 1)), [])) (pq_inc l5 (by decide)) ?_
        replace l0 : px_lg (px_s1 lv 5 (oI ((k : Int) + 1))) 0 = some (pvR 150) := s1_ne (by decide) (fun _ => rfl) l0
        replace l1 : px_lg (px_s1 lv 5 (oI ((k : Int) + 1))) 1 = some (oI (a)) := s1_ne (by decide) (fun _ => rfl) l1
        replace l2 : px_lg (px_s1 lv 5 (oI ((k : Int) + 1))) 2 = some (oI (z)) := s1_ne (by decide) (fun _ => rfl) l2
        replace l3 : px_lg (px_s1 lv 5 (oI ((k : Int) + 1))) 3 = some (oI 1) := s1_ne (by decide) (fun _ => rfl) l3
        replace l4 : px_lg (px_s1 lv 5 (oI ((k : Int) + 1))) 4 = some (oI (z - a + 1)) := s1_ne (by decide) (fun _ => rfl) l4
        have l5 : px_lg (px_s1 lv 5 (oI ((k : Int) + 1))) 5 = some (oI ((k : Int) + 1)) := s1_eq
        generalize px_s1 lv 5 (oI ((k : Int) + 1)) = lv3 at l0 l1 l2 l3 l4 l5 ⊢
        show t_X d 95 90 lv3 [] g2 P
        refine t_1 zrw150_90 rfl (pb_goto (pc := 90) (by decide)) ?_
        show t_X d 95 70 lv3 [] g2 P
        refine ih (k + 1) _ _ (by omega) (by omega) (show tS150 g0 g2 p (m + ((k + 1 : Nat) : Int)) 0 (updI c (m + (k : Int)).toNat (a + ((k : Int) * 1))) by rw [show m + ((k + 1 : Nat) : Int) = m + (k : Int) + 1 by omega]; exact hS2) ⟨fun j hj => ?_, fun i hi h6 => ?_⟩ l0 l1 l2 l3 l4 l5
        · unfold updI
          rw [if_neg (by omega)]
          exact hc.1 j hj
        · unfold updI
          by_cases e : i = k
          · subst e; rw [if_pos rfl]; omega
          · rw [if_neg (by omega)]; exact hc.2 i (by omega) h6
      · replace hS2 : tS150 g0 g2 p ((m + (k : Int)) + 1) 0 c := hS2
        show t_X d 95 87 lv [] g2 P
        refine t_2 zrw150_87 rfl (w := (px_s1 lv 5 (oI ((k : Int) + 1)), [])) (pq_inc l5 (by decide)) ?_
        replace l0 : px_lg (px_s1 lv 5 (oI ((k : Int) + 1))) 0 = some (pvR 150) := s1_ne (by decide) (fun _ => rfl) l0
        replace l1 : px_lg (px_s1 lv 5 (oI ((k : Int) + 1))) 1 = some (oI (a)) := s1_ne (by decide) (fun _ => rfl) l1
        replace l2 : px_lg (px_s1 lv 5 (oI ((k : Int) + 1))) 2 = some (oI (z)) := s1_ne (by decide) (fun _ => rfl) l2
        replace l3 : px_lg (px_s1 lv 5 (oI ((k : Int) + 1))) 3 = some (oI 1) := s1_ne (by decide) (fun _ => rfl) l3
        replace l4 : px_lg (px_s1 lv 5 (oI ((k : Int) + 1))) 4 = some (oI (z - a + 1)) := s1_ne (by decide) (fun _ => rfl) l4
        have l5 : px_lg (px_s1 lv 5 (oI ((k : Int) + 1))) 5 = some (oI ((k : Int) + 1)) := s1_eq
        generalize px_s1 lv 5 (oI ((k : Int) + 1)) = lv4 at l0 l1 l2 l3 l4 l5 ⊢
        show t_X d 95 90 lv4 [] g2 P
        refine t_1 zrw150_90 rfl (pb_goto (pc := 90) (by decide)) ?_
        show t_X d 95 70 lv4 [] g2 P
        refine ih (k + 1) _ _ (by omega) (by omega) (show tS150 g0 g2 p (m + ((k + 1 : Nat) : Int)) 0 c by rw [show m + ((k + 1 : Nat) : Int) = m + (k : Int) + 1 by omega]; exact hS2) ⟨fun j hj => ?_, fun i hi h6 => ?_⟩ l0 l1 l2 l3 l4 l5
        · exact hc.1 j hj
        · exact hc.2 i (by omega) h6
    · skip
      refine t_0 zrw150_70 rfl (ld_i l5) ?_
      refine t_0 zrw150_72 rfl (ld_i l4) ?_
      refine tb_ge zrw150_74 (by decide) ⟨by omega, by omega⟩ ⟨by omega, by omega⟩ (fun c1 => ?_) (fun c1 => absurd c1 (by omega))
      show t_X d 95 93 lv [] g P
      refine t_5 zrw150_93 rfl rfl ?_
      have ek : (k : Int) = z - a + 1 := by omega
      rw [ek] at hS
      exact hO _ _ hS hc.1 (fun i hi h6 => hc.2 i (by omega) h6)
set_option maxHeartbeats 2000000 in
theorem rl150m {d : Nat} (hd : 1 ≤ d) {g0 : pH} {B : tC} {n : Int} (hB : tB150 g0 B n) {p m a z : Int} (ha : 0 ≤ a ∧ a ≤ 31 ∧ 0 ≤ z ∧ z ≤ 31 ∧ z < a) (hm : 0 ≤ m ∧ m ≤ 60) {c0 : tC} {P : Option pv × pH → Prop} (hO : ∀ (g1 : pH) (c1 : tC), tS150 g0 g1 p (m + (a - z + 1)) 0 c1 → (∀ j : Nat, (j : Int) < m → c1 j = c0 j) → (∀ i : Nat, (i : Int) < a - z + 1 → m + i < 60 → c1 (m + i).toNat = a - (i : Int)) → P (none, g1)) : ∀ (y k : Nat) (g : pH) (lv : List (Nat × pv)) {c : tC}, a - z + 1 - k ≤ y → (k : Int) ≤ a - z + 1 → tS150 g0 g p (m + (k : Int)) 0 c → ((∀ j : Nat, (j : Int) < m → c j = c0 j) ∧ ∀ i : Nat, i < k → m + i < 60 → c (m + i).toNat = a - (i : Int)) → px_lg lv 0 = some (pvR 150) → px_lg lv 1 = some (oI a) → px_lg lv 2 = some (oI z) → px_lg lv 3 = some (oI (-1)) → px_lg lv 4 = some (oI (a - z + 1)) → px_lg lv 5 = some (oI (k : Int)) → t_X d 95 70 lv [] g P := by
  intro y
  induction y with
  | zero =>
    intro k g lv c hy hk hS hc l0 l1 l2 l3 l4 l5
    have ek0 : (k : Int) = a - z + 1 := by omega
    refine t_0 zrw150_70 rfl (ld_i l5) ?_
    refine t_0 zrw150_72 rfl (ld_i l4) ?_
    refine tb_ge zrw150_74 (by decide) ⟨by omega, by omega⟩ ⟨by omega, by omega⟩ (fun c1 => ?_) (fun c1 => absurd c1 (by omega))
    show t_X d 95 93 lv [] g P
    refine t_5 zrw150_93 rfl rfl ?_
    have ek : (k : Int) = a - z + 1 := by omega
    rw [ek] at hS
    exact hO _ _ hS hc.1 (fun i hi h6 => hc.2 i (by omega) h6)
  | succ y ih =>
    intro k g lv c hy hk hS hc l0 l1 l2 l3 l4 l5
    by_cases hkk : (k : Int) < a - z + 1
    · skip
      refine t_0 zrw150_70 rfl (ld_i l5) ?_
      refine t_0 zrw150_72 rfl (ld_i l4) ?_
      refine tb_ge zrw150_74 (by decide) ⟨by omega, by omega⟩ ⟨by omega, by omega⟩ (fun c1 => absurd c1 (by omega)) (fun c1 => ?_)
      show t_X d 95 77 lv [] g P
      refine t_0 zrw150_77 rfl (ld_a l0) ?_
      refine t_0 zrw150_78 rfl (ld_i l1) ?_
      refine t_0 zrw150_79 rfl (ld_i l5) ?_
      refine t_0 zrw150_81 rfl (ld_i l3) ?_
      refine t_0 zrw150_82 rfl pq_mul ?_
      refine t_0 zrw150_83 rfl pq_add ?_
      refine t_3 zrw150_84 rfl (ar := ([pvR 150, oI (a + ((k : Int) * (-1)))], [])) (pcal_w (as := [oI (a + ((k : Int) * (-1)))]) rfl rfl rfl eo_150) ⟨by omega, Nat.le_of_ble_eq_true rfl, Nat.le_of_ble_eq_true rfl, rfl⟩ ?_
      refine ap150_run hB hS ⟨by omega, by omega⟩ (by omega) (fun t2 g2 hS2 => ?_) (fun t2 g2 hS2 => ?_) rfl rfl
      · replace hS2 : tS150 g0 g2 p ((m + (k : Int)) + 1) 0 (updI c (m + (k : Int)).toNat (a + ((k : Int) * (-1)))) := hS2
        show t_X d 95 87 lv [] g2 P
        refine t_2 zrw150_87 rfl (w := (px_s1 lv 5 (oI ((k : Int) + 1)), [])) (pq_inc l5 (by decide)) ?_
        replace l0 : px_lg (px_s1 lv 5 (oI ((k : Int) + 1))) 0 = some (pvR 150) := s1_ne (by decide) (fun _ => rfl) l0
        replace l1 : px_lg (px_s1 lv 5 (oI ((k : Int) + 1))) 1 = some (oI (a)) := s1_ne (by decide) (fun _ => rfl) l1
        replace l2 : px_lg (px_s1 lv 5 (oI ((k : Int) + 1))) 2 = some (oI (z)) := s1_ne (by decide) (fun _ => rfl) l2
        replace l3 : px_lg (px_s1 lv 5 (oI ((k : Int) + 1))) 3 = some (oI (-1)) := s1_ne (by decide) (fun _ => rfl) l3
        replace l4 : px_lg (px_s1 lv 5 (oI ((k : Int) + 1))) 4 = some (oI (a - z + 1)) := s1_ne (by decide) (fun _ => rfl) l4
        have l5 : px_lg (px_s1 lv 5 (oI ((k : Int) + 1))) 5 = some (oI ((k : Int) + 1)) := s1_eq
        generalize px_s1 lv 5 (oI ((k : Int) + 1)) = lv3 at l0 l1 l2 l3 l4 l5 ⊢
        show t_X d 95 90 lv3 [] g2 P
        refine t_1 zrw150_90 rfl (pb_goto (pc := 90) (by decide)) ?_
        show t_X d 95 70 lv3 [] g2 P
        refine ih (k + 1) _ _ (by omega) (by omega) (show tS150 g0 g2 p (m + ((k + 1 : Nat) : Int)) 0 (updI c (m + (k : Int)).toNat (a + ((k : Int) * (-1)))) by rw [show m + ((k + 1 : Nat) : Int) = m + (k : Int) + 1 by omega]; exact hS2) ⟨fun j hj => ?_, fun i hi h6 => ?_⟩ l0 l1 l2 l3 l4 l5
        · unfold updI
          rw [if_neg (by omega)]
          exact hc.1 j hj
        · unfold updI
          by_cases e : i = k
          · subst e; rw [if_pos rfl]; omega
          · rw [if_neg (by omega)]; exact hc.2 i (by omega) h6
      · replace hS2 : tS150 g0 g2 p ((m + (k : Int)) + 1) 0 c := hS2
        show t_X d 95 87 lv [] g2 P
        refine t_2 zrw150_87 rfl (w := (px_s1 lv 5 (oI ((k : Int) + 1)), [])) (pq_inc l5 (by decide)) ?_
        replace l0 : px_lg (px_s1 lv 5 (oI ((k : Int) + 1))) 0 = some (pvR 150) := s1_ne (by decide) (fun _ => rfl) l0
        replace l1 : px_lg (px_s1 lv 5 (oI ((k : Int) + 1))) 1 = some (oI (a)) := s1_ne (by decide) (fun _ => rfl) l1
        replace l2 : px_lg (px_s1 lv 5 (oI ((k : Int) + 1))) 2 = some (oI (z)) := s1_ne (by decide) (fun _ => rfl) l2
        replace l3 : px_lg (px_s1 lv 5 (oI ((k : Int) + 1))) 3 = some (oI (-1)) := s1_ne (by decide) (fun _ => rfl) l3
        replace l4 : px_lg (px_s1 lv 5 (oI ((k : Int) + 1))) 4 = some (oI (a - z + 1)) := s1_ne (by decide) (fun _ => rfl) l4
        have l5 : px_lg (px_s1 lv 5 (oI ((k : Int) + 1))) 5 = some (oI ((k : Int) + 1)) := s1_eq
        generalize px_s1 lv 5 (oI ((k : Int) + 1)) = lv4 at l0 l1 l2 l3 l4 l5 ⊢
        show t_X d 95 90 lv4 [] g2 P
        refine t_1 zrw150_90 rfl (pb_goto (pc := 90) (by decide)) ?_
        show t_X d 95 70 lv4 [] g2 P
        refine ih (k + 1) _ _ (by omega) (by omega) (show tS150 g0 g2 p (m + ((k + 1 : Nat) : Int)) 0 c by rw [show m + ((k + 1 : Nat) : Int) = m + (k : Int) + 1 by omega]; exact hS2) ⟨fun j hj => ?_, fun i hi h6 => ?_⟩ l0 l1 l2 l3 l4 l5
        · exact hc.1 j hj
        · exact hc.2 i (by omega) h6
    · skip
      refine t_0 zrw150_70 rfl (ld_i l5) ?_
      refine t_0 zrw150_72 rfl (ld_i l4) ?_
      refine tb_ge zrw150_74 (by decide) ⟨by omega, by omega⟩ ⟨by omega, by omega⟩ (fun c1 => ?_) (fun c1 => absurd c1 (by omega))
      show t_X d 95 93 lv [] g P
      refine t_5 zrw150_93 rfl rfl ?_
      have ek : (k : Int) = a - z + 1 := by omega
      rw [ek] at hS
      exact hO _ _ hS hc.1 (fun i hi h6 => hc.2 i (by omega) h6)
set_option maxHeartbeats 4000000 in
theorem rw150_run {d : Nat} (hd : 2 ≤ d) {g0 g : pH} {B : tC} {n : Int} (hB : tB150 g0 B n) {p m : Int} {c : tC} (hS : tS150 g0 g p m 0 c) (hm : 0 ≤ m ∧ m ≤ 60) {P : Option pv × pH → Prop} (hF : ∀ (g1 : pH) (f q : Int), tS150 g0 g1 q m f c → f < 0 → -9999 ≤ f → tRo (tH B n) p m c (.inl f) → P (none, g1)) (hO : ∀ (g1 : pH) (q w : Int) (c1 : tC), tS150 g0 g1 q (m + w) 0 c1 → p < q ∧ q ≤ n → 1 ≤ w ∧ w ≤ 32 → (m + w ≤ 60 → tRo (tH B n) p m c (.inr (q, m + w, c1))) → (60 < m + w → tRo (tH B n) p m c (.inl (-6000 - p))) → P (none, g1)) {lv : List (Nat × pv)} (l0 : px_lg lv 0 = some (pvR 150)) : t_X d 95 0 lv [] g P := by
  obtain ⟨hn0, hn1, hp1, hm1, hH⟩ := cm150 hB hS
  refine t_0 zrw150_0 rfl (ld_a l0) ?_
  refine t_3 zrw150_1 rfl (ar := ([pvR 150], [])) (pcal_w (as := []) rfl rfl rfl eo_150) ⟨by omega, Nat.le_of_ble_eq_true rfl, Nat.le_of_ble_eq_true rfl, rfl⟩ ?_
  refine nu150_run (by omega) hB hS (fun g1 f1 q1 v1 hS1 t1 => ?_) (fun g1 v1 q1 hS1 t1 => ?_) rfl
  · replace hS1 : tS150 g0 g1 q1 m f1 c := hS1
    have u1 : f1 < 0 ∧ -9999 ≤ f1 := by unfold tNf tDg at t1; omega
    show t_X d 95 4 lv [oI (v1)] g1 P
    refine t_2 zrw150_4 rfl (w := (px_s1 lv 1 (oI (v1)), [])) rfl ?_
    replace l0 : px_lg (px_s1 lv 1 (oI (v1))) 0 = some (pvR 150) := s1_ne (by decide) (fun _ => rfl) l0
    have l1 : px_lg (px_s1 lv 1 (oI (v1))) 1 = some (oI (v1)) := s1_eq
    generalize px_s1 lv 1 (oI (v1)) = lv2 at l0 l1 ⊢
    show t_X d 95 5 lv2 [] g1 P
    refine t_0 zrw150_5 rfl (ld_i l1) ?_
    refine t_2 zrw150_6 rfl (w := (px_s1 lv2 2 (oI (v1)), [])) rfl ?_
    replace l0 : px_lg (px_s1 lv2 2 (oI (v1))) 0 = some (pvR 150) := s1_ne (by decide) (fun _ => rfl) l0
    replace l1 : px_lg (px_s1 lv2 2 (oI (v1))) 1 = some (oI (v1)) := s1_ne (by decide) (fun _ => rfl) l1
    have l2 : px_lg (px_s1 lv2 2 (oI (v1))) 2 = some (oI (v1)) := s1_eq
    generalize px_s1 lv2 2 (oI (v1)) = lv3 at l0 l1 l2 ⊢
    show t_X d 95 7 lv3 [] g1 P
    refine t_0 zrw150_7 rfl (ld_a l0) ?_
    refine t_0 zrw150_8 rfl (pq_cv eo_150 rfl (show cF g1 150 5 = f1 from S_f hS1 2 (Nat.le_of_ble_eq_true rfl))) ?_
    show t_X d 95 11 lv3 [oI (f1)] g1 P
    refine tz_ne zrw150_11 (by decide) ⟨by omega, by omega⟩ (fun c4 => ?_) (fun c4 => absurd c4 (by omega))
    show t_X d 95 38 lv3 [] g1 P
    refine t_0 zrw150_38 rfl (ld_a l0) ?_
    refine t_0 zrw150_39 rfl (pq_cv eo_150 rfl (show cF g1 150 5 = f1 from S_f hS1 2 (Nat.le_of_ble_eq_true rfl))) ?_
    show t_X d 95 42 lv3 [oI (f1)] g1 P
    refine tz_eq zrw150_42 (by decide) ⟨by omega, by omega⟩ (fun c5 => absurd c5 (by omega)) (fun c5 => ?_)
    show t_X d 95 45 lv3 [] g1 P
    refine t_5 zrw150_45 rfl rfl ?_
    exact hF _ _ _ hS1 (by omega) (by omega) (Or.inl ⟨_, t1, rfl⟩)
  · replace hS1 : tS150 g0 g1 q1 m 0 c := hS1
    have u1 := tNu_b t1
    have w1 := (cm150 hB hS1).2.2.1
    have x1 := tNu_n t1
    show t_X d 95 4 lv [oI (v1)] g1 P
    refine t_2 zrw150_4 rfl (w := (px_s1 lv 1 (oI (v1)), [])) rfl ?_
    replace l0 : px_lg (px_s1 lv 1 (oI (v1))) 0 = some (pvR 150) := s1_ne (by decide) (fun _ => rfl) l0
    have l1 : px_lg (px_s1 lv 1 (oI (v1))) 1 = some (oI (v1)) := s1_eq
    generalize px_s1 lv 1 (oI (v1)) = lv6 at l0 l1 ⊢
    show t_X d 95 5 lv6 [] g1 P
    refine t_0 zrw150_5 rfl (ld_i l1) ?_
    refine t_2 zrw150_6 rfl (w := (px_s1 lv6 2 (oI (v1)), [])) rfl ?_
    replace l0 : px_lg (px_s1 lv6 2 (oI (v1))) 0 = some (pvR 150) := s1_ne (by decide) (fun _ => rfl) l0
    replace l1 : px_lg (px_s1 lv6 2 (oI (v1))) 1 = some (oI (v1)) := s1_ne (by decide) (fun _ => rfl) l1
    have l2 : px_lg (px_s1 lv6 2 (oI (v1))) 2 = some (oI (v1)) := s1_eq
    generalize px_s1 lv6 2 (oI (v1)) = lv7 at l0 l1 l2 ⊢
    show t_X d 95 7 lv7 [] g1 P
    refine t_0 zrw150_7 rfl (ld_a l0) ?_
    refine t_0 zrw150_8 rfl (pq_cv eo_150 rfl (show cF g1 150 5 = 0 from S_f hS1 2 (Nat.le_of_ble_eq_true rfl))) ?_
    show t_X d 95 11 lv7 [oI 0] g1 P
    refine tz_ne zrw150_11 (by decide) ⟨by omega, by omega⟩ (fun c8 => absurd c8 (by omega)) (fun c8 => ?_)
    show t_X d 95 14 lv7 [] g1 P
    refine t_0 zrw150_14 rfl (ld_a l0) ?_
    refine t_3 zrw150_15 rfl (ar := ([pvR 150], [])) (pcal_w (as := []) rfl rfl rfl eo_150) ⟨by omega, Nat.le_of_ble_eq_true rfl, Nat.le_of_ble_eq_true rfl, rfl⟩ ?_
    refine sg150_run hB hS1 ?_ rfl
    have b9 := hH q1 (by omega)
    have z9 := tH_n (B := B) (n := n) (p := q1)
    show t_X d 95 18 lv7 [oI (tH B n q1)] g1 P
    refine t_0 zrw150_18 rfl (pq_b (by decide)) ?_
    refine tb_ne zrw150_20 (by decide) ⟨by omega, by omega⟩ ⟨by omega, by omega⟩ (fun c10 => ?_) (fun c10 => ?_)
    · show t_X d 95 38 lv7 [] g1 P
      refine t_0 zrw150_38 rfl (ld_a l0) ?_
      refine t_0 zrw150_39 rfl (pq_cv eo_150 rfl (show cF g1 150 5 = 0 from S_f hS1 2 (Nat.le_of_ble_eq_true rfl))) ?_
      show t_X d 95 42 lv7 [oI 0] g1 P
      refine tz_eq zrw150_42 (by decide) ⟨by omega, by omega⟩ (fun c11 => ?_) (fun c11 => absurd c11 (by omega))
      show t_X d 95 46 lv7 [] g1 P
      refine t_0 zrw150_46 rfl (ld_i l1) ?_
      refine t_0 zrw150_47 rfl (ld_i l2) ?_
      refine tb_gt zrw150_48 (by decide) ⟨by omega, by omega⟩ ⟨by omega, by omega⟩ (fun c12 => absurd c12 (by omega)) (fun c12 => ?_)
      show t_X d 95 51 lv7 [] g1 P
      refine t_0 zrw150_51 rfl rfl ?_
      refine t_1 zrw150_52 rfl (pb_goto (pc := 52) (by decide)) ?_
      show t_X d 95 56 lv7 [oI 1] g1 P
      refine t_2 zrw150_56 rfl (w := (px_s1 lv7 3 (oI 1), [])) rfl ?_
      replace l0 : px_lg (px_s1 lv7 3 (oI 1)) 0 = some (pvR 150) := s1_ne (by decide) (fun _ => rfl) l0
      replace l1 : px_lg (px_s1 lv7 3 (oI 1)) 1 = some (oI (v1)) := s1_ne (by decide) (fun _ => rfl) l1
      replace l2 : px_lg (px_s1 lv7 3 (oI 1)) 2 = some (oI (v1)) := s1_ne (by decide) (fun _ => rfl) l2
      have l3 : px_lg (px_s1 lv7 3 (oI 1)) 3 = some (oI 1) := s1_eq
      generalize px_s1 lv7 3 (oI 1) = lv13 at l0 l1 l2 l3 ⊢
      show t_X d 95 57 lv13 [] g1 P
      refine t_0 zrw150_57 rfl (ld_i l2) ?_
      refine t_0 zrw150_58 rfl (ld_i l1) ?_
      refine t_0 zrw150_59 rfl pq_sub ?_
      refine pq_abp zrw150_60 rfl rfl (by omega) (Nat.le_of_ble_eq_true rfl) ⟨by omega, by omega⟩ ?_
      show t_X d 95 63 lv13 [oI (v1 - v1)] g1 P
      refine t_0 zrw150_63 rfl rfl ?_
      refine t_0 zrw150_64 rfl pq_add ?_
      refine t_2 zrw150_65 rfl (w := (px_s1 lv13 4 (oI ((v1 - v1) + 1)), [])) rfl ?_
      replace l0 : px_lg (px_s1 lv13 4 (oI ((v1 - v1) + 1))) 0 = some (pvR 150) := s1_ne (by decide) (fun _ => rfl) l0
      replace l1 : px_lg (px_s1 lv13 4 (oI ((v1 - v1) + 1))) 1 = some (oI (v1)) := s1_ne (by decide) (fun _ => rfl) l1
      replace l2 : px_lg (px_s1 lv13 4 (oI ((v1 - v1) + 1))) 2 = some (oI (v1)) := s1_ne (by decide) (fun _ => rfl) l2
      replace l3 : px_lg (px_s1 lv13 4 (oI ((v1 - v1) + 1))) 3 = some (oI 1) := s1_ne (by decide) (fun _ => rfl) l3
      have l4 : px_lg (px_s1 lv13 4 (oI ((v1 - v1) + 1))) 4 = some (oI ((v1 - v1) + 1)) := s1_eq
      generalize px_s1 lv13 4 (oI ((v1 - v1) + 1)) = lv14 at l0 l1 l2 l3 l4 ⊢
      show t_X d 95 67 lv14 [] g1 P
      refine t_0 zrw150_67 rfl rfl ?_
      refine t_2 zrw150_68 rfl (w := (px_s1 lv14 5 (oI 0), [])) rfl ?_
      replace l0 : px_lg (px_s1 lv14 5 (oI 0)) 0 = some (pvR 150) := s1_ne (by decide) (fun _ => rfl) l0
      replace l1 : px_lg (px_s1 lv14 5 (oI 0)) 1 = some (oI (v1)) := s1_ne (by decide) (fun _ => rfl) l1
      replace l2 : px_lg (px_s1 lv14 5 (oI 0)) 2 = some (oI (v1)) := s1_ne (by decide) (fun _ => rfl) l2
      replace l3 : px_lg (px_s1 lv14 5 (oI 0)) 3 = some (oI 1) := s1_ne (by decide) (fun _ => rfl) l3
      replace l4 : px_lg (px_s1 lv14 5 (oI 0)) 4 = some (oI ((v1 - v1) + 1)) := s1_ne (by decide) (fun _ => rfl) l4
      have l5 : px_lg (px_s1 lv14 5 (oI 0)) 5 = some (oI 0) := s1_eq
      generalize px_s1 lv14 5 (oI 0) = lv15 at l0 l1 l2 l3 l4 l5 ⊢
      show t_X d 95 70 lv15 [] g1 P
      replace l4 : px_lg lv15 4 = some (oI (v1 - v1 + 1)) := l4.trans (congrArg (fun u => some (oI u)) (by omega))
      refine rl150p (by omega) hB (a := v1) (z := v1) (p := q1) (m := m) ⟨by omega, by omega, by omega, by omega, by omega⟩ hm (c0 := c) (fun g1 c1 h1 h2 h3 => ?_) 40 0 _ _ (by omega) (by omega) (show tS150 g0 g1 q1 (m + ((0 : Nat) : Int)) 0 c by rw [show m + ((0 : Nat) : Int) = m by omega]; exact hS1) ⟨fun j _ => rfl, fun i hi => absurd hi (by omega)⟩ l0 l1 l2 l3 l4 l5
      have ew : tW v1 v1 = v1 - v1 + 1 := by unfold tW; rw [if_pos (by omega)]
      rw [← ew] at h1 h3
      refine hO _ _ _ _ h1 ⟨by omega, by omega⟩ ⟨by omega, by omega⟩ (fun h6 => ?_) (fun h6 => ?_)
      · refine Or.inr ⟨_, _, t1, Or.inl ⟨by omega, Or.inr ⟨h6, _, rfl, h2, fun k hk => ?_⟩⟩⟩
        rw [h3 k hk (by omega), if_pos (by omega)]
      · exact Or.inr ⟨_, _, t1, Or.inl ⟨by omega, Or.inl ⟨h6, rfl⟩⟩⟩
    · show t_X d 95 23 lv7 [] g1 P
      refine t_0 zrw150_23 rfl (ld_a l0) ?_
      refine t_0 zrw150_24 rfl rfl ?_
      refine t_0 zrw150_25 rfl (pq_cv eo_150 rfl (show cF g1 150 4 = q1 from S_f hS1 0 (Nat.le_of_ble_eq_true rfl))) ?_
      show t_X d 95 28 lv7 [oI (q1), pvR 150] g1 P
      refine t_0 zrw150_28 rfl rfl ?_
      refine t_0 zrw150_29 rfl pq_add ?_
      refine ts_f (n := 0) rfl rfl (by decide) zrw150_30 rfl eo_150 hS1 wt_tW150_150_4 gy_150_4 (by decide) ⟨by omega, by omega⟩ (fun g16 hS16 => ?_)
      replace hS16 : tS150 g0 g16 (q1 + 1) m 0 c := hS16
      show t_X d 95 33 lv7 [] g16 P
      refine t_0 zrw150_33 rfl (ld_a l0) ?_
      refine t_3 zrw150_34 rfl (ar := ([pvR 150], [])) (pcal_w (as := []) rfl rfl rfl eo_150) ⟨by omega, Nat.le_of_ble_eq_true rfl, Nat.le_of_ble_eq_true rfl, rfl⟩ ?_
      refine nu150_run (by omega) hB hS16 (fun g17 f17 q17 v17 hS17 t17 => ?_) (fun g17 v17 q17 hS17 t17 => ?_) rfl
      · replace hS17 : tS150 g0 g17 q17 m f17 c := hS17
        have u17 : f17 < 0 ∧ -9999 ≤ f17 := by unfold tNf tDg at t17; omega
        show t_X d 95 37 lv7 [oI (v17)] g17 P
        refine t_2 zrw150_37 rfl (w := (px_s1 lv7 2 (oI (v17)), [])) rfl ?_
        replace l0 : px_lg (px_s1 lv7 2 (oI (v17))) 0 = some (pvR 150) := s1_ne (by decide) (fun _ => rfl) l0
        replace l1 : px_lg (px_s1 lv7 2 (oI (v17))) 1 = some (oI (v1)) := s1_ne (by decide) (fun _ => rfl) l1
        have l2 : px_lg (px_s1 lv7 2 (oI (v17))) 2 = some (oI (v17)) := s1_eq
        generalize px_s1 lv7 2 (oI (v17)) = lv18 at l0 l1 l2 ⊢
        show t_X d 95 38 lv18 [] g17 P
        refine t_0 zrw150_38 rfl (ld_a l0) ?_
        refine t_0 zrw150_39 rfl (pq_cv eo_150 rfl (show cF g17 150 5 = f17 from S_f hS17 2 (Nat.le_of_ble_eq_true rfl))) ?_
        show t_X d 95 42 lv18 [oI (f17)] g17 P
        refine tz_eq zrw150_42 (by decide) ⟨by omega, by omega⟩ (fun c19 => absurd c19 (by omega)) (fun c19 => ?_)
        show t_X d 95 45 lv18 [] g17 P
        refine t_5 zrw150_45 rfl rfl ?_
        exact hF _ _ _ hS17 (by omega) (by omega) (Or.inr ⟨_, _, t1, Or.inr ⟨by omega, Or.inl ⟨_, t17, rfl⟩⟩⟩)
      · replace hS17 : tS150 g0 g17 q17 m 0 c := hS17
        have u17 := tNu_b t17
        have w17 := (cm150 hB hS17).2.2.1
        have x17 := tNu_n t17
        show t_X d 95 37 lv7 [oI (v17)] g17 P
        refine t_2 zrw150_37 rfl (w := (px_s1 lv7 2 (oI (v17)), [])) rfl ?_
        replace l0 : px_lg (px_s1 lv7 2 (oI (v17))) 0 = some (pvR 150) := s1_ne (by decide) (fun _ => rfl) l0
        replace l1 : px_lg (px_s1 lv7 2 (oI (v17))) 1 = some (oI (v1)) := s1_ne (by decide) (fun _ => rfl) l1
        have l2 : px_lg (px_s1 lv7 2 (oI (v17))) 2 = some (oI (v17)) := s1_eq
        generalize px_s1 lv7 2 (oI (v17)) = lv20 at l0 l1 l2 ⊢
        show t_X d 95 38 lv20 [] g17 P
        refine t_0 zrw150_38 rfl (ld_a l0) ?_
        refine t_0 zrw150_39 rfl (pq_cv eo_150 rfl (show cF g17 150 5 = 0 from S_f hS17 2 (Nat.le_of_ble_eq_true rfl))) ?_
        show t_X d 95 42 lv20 [oI 0] g17 P
        refine tz_eq zrw150_42 (by decide) ⟨by omega, by omega⟩ (fun c21 => ?_) (fun c21 => absurd c21 (by omega))
        show t_X d 95 46 lv20 [] g17 P
        refine t_0 zrw150_46 rfl (ld_i l1) ?_
        refine t_0 zrw150_47 rfl (ld_i l2) ?_
        refine tb_gt zrw150_48 (by decide) ⟨by omega, by omega⟩ ⟨by omega, by omega⟩ (fun c22 => ?_) (fun c22 => ?_)
        · show t_X d 95 55 lv20 [] g17 P
          refine t_0 zrw150_55 rfl rfl ?_
          refine t_2 zrw150_56 rfl (w := (px_s1 lv20 3 (oI (-1)), [])) rfl ?_
          replace l0 : px_lg (px_s1 lv20 3 (oI (-1))) 0 = some (pvR 150) := s1_ne (by decide) (fun _ => rfl) l0
          replace l1 : px_lg (px_s1 lv20 3 (oI (-1))) 1 = some (oI (v1)) := s1_ne (by decide) (fun _ => rfl) l1
          replace l2 : px_lg (px_s1 lv20 3 (oI (-1))) 2 = some (oI (v17)) := s1_ne (by decide) (fun _ => rfl) l2
          have l3 : px_lg (px_s1 lv20 3 (oI (-1))) 3 = some (oI (-1)) := s1_eq
          generalize px_s1 lv20 3 (oI (-1)) = lv23 at l0 l1 l2 l3 ⊢
          show t_X d 95 57 lv23 [] g17 P
          refine t_0 zrw150_57 rfl (ld_i l2) ?_
          refine t_0 zrw150_58 rfl (ld_i l1) ?_
          refine t_0 zrw150_59 rfl pq_sub ?_
          refine pq_abn zrw150_60 rfl rfl (by omega) (Nat.le_of_ble_eq_true rfl) ⟨by omega, by omega⟩ ?_
          show t_X d 95 63 lv23 [oI (-(v17 - v1))] g17 P
          refine t_0 zrw150_63 rfl rfl ?_
          refine t_0 zrw150_64 rfl pq_add ?_
          refine t_2 zrw150_65 rfl (w := (px_s1 lv23 4 (oI ((-(v17 - v1)) + 1)), [])) rfl ?_
          replace l0 : px_lg (px_s1 lv23 4 (oI ((-(v17 - v1)) + 1))) 0 = some (pvR 150) := s1_ne (by decide) (fun _ => rfl) l0
          replace l1 : px_lg (px_s1 lv23 4 (oI ((-(v17 - v1)) + 1))) 1 = some (oI (v1)) := s1_ne (by decide) (fun _ => rfl) l1
          replace l2 : px_lg (px_s1 lv23 4 (oI ((-(v17 - v1)) + 1))) 2 = some (oI (v17)) := s1_ne (by decide) (fun _ => rfl) l2
          replace l3 : px_lg (px_s1 lv23 4 (oI ((-(v17 - v1)) + 1))) 3 = some (oI (-1)) := s1_ne (by decide) (fun _ => rfl) l3
          have l4 : px_lg (px_s1 lv23 4 (oI ((-(v17 - v1)) + 1))) 4 = some (oI ((-(v17 - v1)) + 1)) := s1_eq
          generalize px_s1 lv23 4 (oI ((-(v17 - v1)) + 1)) = lv24 at l0 l1 l2 l3 l4 ⊢
          show t_X d 95 67 lv24 [] g17 P
          refine t_0 zrw150_67 rfl rfl ?_
          refine t_2 zrw150_68 rfl (w := (px_s1 lv24 5 (oI 0), [])) rfl ?_
          replace l0 : px_lg (px_s1 lv24 5 (oI 0)) 0 = some (pvR 150) := s1_ne (by decide) (fun _ => rfl) l0
          replace l1 : px_lg (px_s1 lv24 5 (oI 0)) 1 = some (oI (v1)) := s1_ne (by decide) (fun _ => rfl) l1
          replace l2 : px_lg (px_s1 lv24 5 (oI 0)) 2 = some (oI (v17)) := s1_ne (by decide) (fun _ => rfl) l2
          replace l3 : px_lg (px_s1 lv24 5 (oI 0)) 3 = some (oI (-1)) := s1_ne (by decide) (fun _ => rfl) l3
          replace l4 : px_lg (px_s1 lv24 5 (oI 0)) 4 = some (oI ((-(v17 - v1)) + 1)) := s1_ne (by decide) (fun _ => rfl) l4
          have l5 : px_lg (px_s1 lv24 5 (oI 0)) 5 = some (oI 0) := s1_eq
          generalize px_s1 lv24 5 (oI 0) = lv25 at l0 l1 l2 l3 l4 l5 ⊢
          show t_X d 95 70 lv25 [] g17 P
          replace l4 : px_lg lv25 4 = some (oI (v1 - v17 + 1)) := l4.trans (congrArg (fun u => some (oI u)) (by omega))
          refine rl150m (by omega) hB (a := v1) (z := v17) (p := q17) (m := m) ⟨by omega, by omega, by omega, by omega, by omega⟩ hm (c0 := c) (fun g1 c1 h1 h2 h3 => ?_) 40 0 _ _ (by omega) (by omega) (show tS150 g0 g17 q17 (m + ((0 : Nat) : Int)) 0 c by rw [show m + ((0 : Nat) : Int) = m by omega]; exact hS17) ⟨fun j _ => rfl, fun i hi => absurd hi (by omega)⟩ l0 l1 l2 l3 l4 l5
          have ew : tW v1 v17 = v1 - v17 + 1 := by unfold tW; rw [if_neg (by omega)]
          rw [← ew] at h1 h3
          refine hO _ _ _ _ h1 ⟨by omega, by omega⟩ ⟨by omega, by omega⟩ (fun h6 => ?_) (fun h6 => ?_)
          · refine Or.inr ⟨_, _, t1, Or.inr ⟨by omega, Or.inr ⟨_, _, t17, Or.inr ⟨h6, _, rfl, h2, fun k hk => ?_⟩⟩⟩⟩
            rw [h3 k hk (by omega), if_neg (by omega)]
          · exact Or.inr ⟨_, _, t1, Or.inr ⟨by omega, Or.inr ⟨_, _, t17, Or.inl ⟨h6, rfl⟩⟩⟩⟩
        · show t_X d 95 51 lv20 [] g17 P
          refine t_0 zrw150_51 rfl rfl ?_
          refine t_1 zrw150_52 rfl (pb_goto (pc := 52) (by decide)) ?_
          show t_X d 95 56 lv20 [oI 1] g17 P
          refine t_2 zrw150_56 rfl (w := (px_s1 lv20 3 (oI 1), [])) rfl ?_
          replace l0 : px_lg (px_s1 lv20 3 (oI 1)) 0 = some (pvR 150) := s1_ne (by decide) (fun _ => rfl) l0
          replace l1 : px_lg (px_s1 lv20 3 (oI 1)) 1 = some (oI (v1)) := s1_ne (by decide) (fun _ => rfl) l1
          replace l2 : px_lg (px_s1 lv20 3 (oI 1)) 2 = some (oI (v17)) := s1_ne (by decide) (fun _ => rfl) l2
          have l3 : px_lg (px_s1 lv20 3 (oI 1)) 3 = some (oI 1) := s1_eq
          generalize px_s1 lv20 3 (oI 1) = lv26 at l0 l1 l2 l3 ⊢
          show t_X d 95 57 lv26 [] g17 P
          refine t_0 zrw150_57 rfl (ld_i l2) ?_
          refine t_0 zrw150_58 rfl (ld_i l1) ?_
          refine t_0 zrw150_59 rfl pq_sub ?_
          refine pq_abp zrw150_60 rfl rfl (by omega) (Nat.le_of_ble_eq_true rfl) ⟨by omega, by omega⟩ ?_
          show t_X d 95 63 lv26 [oI (v17 - v1)] g17 P
          refine t_0 zrw150_63 rfl rfl ?_
          refine t_0 zrw150_64 rfl pq_add ?_
          refine t_2 zrw150_65 rfl (w := (px_s1 lv26 4 (oI ((v17 - v1) + 1)), [])) rfl ?_
          replace l0 : px_lg (px_s1 lv26 4 (oI ((v17 - v1) + 1))) 0 = some (pvR 150) := s1_ne (by decide) (fun _ => rfl) l0
          replace l1 : px_lg (px_s1 lv26 4 (oI ((v17 - v1) + 1))) 1 = some (oI (v1)) := s1_ne (by decide) (fun _ => rfl) l1
          replace l2 : px_lg (px_s1 lv26 4 (oI ((v17 - v1) + 1))) 2 = some (oI (v17)) := s1_ne (by decide) (fun _ => rfl) l2
          replace l3 : px_lg (px_s1 lv26 4 (oI ((v17 - v1) + 1))) 3 = some (oI 1) := s1_ne (by decide) (fun _ => rfl) l3
          have l4 : px_lg (px_s1 lv26 4 (oI ((v17 - v1) + 1))) 4 = some (oI ((v17 - v1) + 1)) := s1_eq
          generalize px_s1 lv26 4 (oI ((v17 - v1) + 1)) = lv27 at l0 l1 l2 l3 l4 ⊢
          show t_X d 95 67 lv27 [] g17 P
          refine t_0 zrw150_67 rfl rfl ?_
          refine t_2 zrw150_68 rfl (w := (px_s1 lv27 5 (oI 0), [])) rfl ?_
          replace l0 : px_lg (px_s1 lv27 5 (oI 0)) 0 = some (pvR 150) := s1_ne (by decide) (fun _ => rfl) l0
          replace l1 : px_lg (px_s1 lv27 5 (oI 0)) 1 = some (oI (v1)) := s1_ne (by decide) (fun _ => rfl) l1
          replace l2 : px_lg (px_s1 lv27 5 (oI 0)) 2 = some (oI (v17)) := s1_ne (by decide) (fun _ => rfl) l2
          replace l3 : px_lg (px_s1 lv27 5 (oI 0)) 3 = some (oI 1) := s1_ne (by decide) (fun _ => rfl) l3
          replace l4 : px_lg (px_s1 lv27 5 (oI 0)) 4 = some (oI ((v17 - v1) + 1)) := s1_ne (by decide) (fun _ => rfl) l4
          have l5 : px_lg (px_s1 lv27 5 (oI 0)) 5 = some (oI 0) := s1_eq
          generalize px_s1 lv27 5 (oI 0) = lv28 at l0 l1 l2 l3 l4 l5 ⊢
          show t_X d 95 70 lv28 [] g17 P
          replace l4 : px_lg lv28 4 = some (oI (v17 - v1 + 1)) := l4.trans (congrArg (fun u => some (oI u)) (by omega))
          refine rl150p (by omega) hB (a := v1) (z := v17) (p := q17) (m := m) ⟨by omega, by omega, by omega, by omega, by omega⟩ hm (c0 := c) (fun g1 c1 h1 h2 h3 => ?_) 40 0 _ _ (by omega) (by omega) (show tS150 g0 g17 q17 (m + ((0 : Nat) : Int)) 0 c by rw [show m + ((0 : Nat) : Int) = m by omega]; exact hS17) ⟨fun j _ => rfl, fun i hi => absurd hi (by omega)⟩ l0 l1 l2 l3 l4 l5
          have ew : tW v1 v17 = v17 - v1 + 1 := by unfold tW; rw [if_pos (by omega)]
          rw [← ew] at h1 h3
          refine hO _ _ _ _ h1 ⟨by omega, by omega⟩ ⟨by omega, by omega⟩ (fun h6 => ?_) (fun h6 => ?_)
          · refine Or.inr ⟨_, _, t1, Or.inr ⟨by omega, Or.inr ⟨_, _, t17, Or.inr ⟨h6, _, rfl, h2, fun k hk => ?_⟩⟩⟩⟩
            rw [h3 k hk (by omega), if_pos (by omega)]
          · exact Or.inr ⟨_, _, t1, Or.inr ⟨by omega, Or.inr ⟨_, _, t17, Or.inl ⟨h6, rfl⟩⟩⟩⟩
theorem ce152 {g0 g : pH} {B : tC} {n p m f : Int} {c : tC} (hB : tB152 g0 B n) (h : tS152 g0 g p m f c) : cF g 152 3 = n := (cF_M (S_J h).2 wn_tW152_152_3).trans hB.1
theorem cr152 {g0 g : pH} {B : tC} {n p m f : Int} {c : tC} (hB : tB152 g0 B n) (h : tS152 g0 g p m f c) : g.2.2.1 152 2 = some 1 := ((S_J h).2.1 152 2 wn_tW152_152_2).2.2.trans hB.2.1
theorem cb152 {g0 g : pH} {B : tC} {n p m f : Int} {c : tC} (hB : tB152 g0 B n) (h : tS152 g0 g p m f c) : fA g 1 = B := (fA_M (S_J h).2 wm_tW152_1).trans hB.2.2.1
theorem cm152 {g0 g : pH} {B : tC} {n p m f : Int} {c : tC} (hB : tB152 g0 B n) (h : tS152 g0 g p m f c) : 0 ≤ n ∧ n ≤ 120 ∧ (0 ≤ p ∧ p ≤ 120) ∧ (0 ≤ m ∧ m ≤ 540) ∧ (∀ q, 0 ≤ q → -1 ≤ tH B n q ∧ tH B n q ≤ 255) := ⟨hB.2.2.2.1, hB.2.2.2.2.1, by have := cb_i (S_J h).1 eo_152 (Nat.le_of_ble_eq_true rfl) rfl gy_152_4; rw [(show cF g 152 4 = p from S_f h 0 (Nat.le_of_ble_eq_true rfl))] at this; exact this, by have := cb_i (S_J h).1 eo_152 (Nat.le_of_ble_eq_true rfl) rfl gy_152_1; rw [(show cF g 152 1 = m from S_f h 1 (Nat.le_of_ble_eq_true rfl))] at this; exact this, fun q hq => tH_b hB.2.2.2.2.2 (by have := hB.2.2.2.2.1; omega) hq⟩
theorem sg152_run {d : Nat} {g0 g : pH} {B : tC} {n : Int} (hB : tB152 g0 B n) {p m f : Int} {c : tC} (hS : tS152 g0 g p m f c) {P : Option pv × pH → Prop} (hP : P (some (oI (tH B n p)), g)) {lv : List (Nat × pv)} (l0 : px_lg lv 0 = some (pvR 152)) : t_X d 97 0 lv [] g P := by
  obtain ⟨hn0, hn1, hp1, hm1, hH⟩ := cm152 hB hS
  refine t_0 zsg152_0 rfl (ld_a l0) ?_
  refine t_0 zsg152_1 rfl (pq_cv eo_152 rfl (show cF g 152 4 = p from S_f hS 0 (Nat.le_of_ble_eq_true rfl))) ?_
  show t_X d 97 4 lv [oI (p)] g P
  refine t_0 zsg152_4 rfl (ld_a l0) ?_
  refine t_0 zsg152_5 rfl (pq_cv eo_152 rfl (ce152 hB hS : cF g 152 3 = n)) ?_
  show t_X d 97 8 lv [oI (n), oI (p)] g P
  refine tb_ge zsg152_8 (by decide) ⟨by omega, by omega⟩ ⟨by omega, by omega⟩ (fun c1 => ?_) (fun c1 => ?_)
  · show t_X d 97 23 lv [] g P
    refine t_0 zsg152_23 rfl rfl ?_
    refine t_5 zsg152_24 rfl rfl ?_
    rw [tH_e (by omega)] at hP
    exact hP
  · show t_X d 97 11 lv [] g P
    refine t_0 zsg152_11 rfl (ld_a l0) ?_
    refine t_0 zsg152_12 rfl (pq_rv eo_152 rfl (cr152 hB hS)) ?_
    show t_X d 97 15 lv [pvR 1] g P
    refine t_0 zsg152_15 rfl (ld_a l0) ?_
    refine t_0 zsg152_16 rfl (pq_cv eo_152 rfl (show cF g 152 4 = p from S_f hS 0 (Nat.le_of_ble_eq_true rfl))) ?_
    show t_X d 97 19 lv [oI (p), pvR 1] g P
    have r2 := pb_a (S_J hS).1 ez_1 (j := p.toNat) (by omega) gu_1 (cb152 hB hS : fA g 1 = B)
    refine t_0 zsg152_19 rfl (pq_iv ez_1 rfl ⟨by omega, by omega⟩ (cb152 hB hS : fA g 1 = B)) ?_
    show t_X d 97 20 lv [oI (B p.toNat)] g P
    refine t_1 zsg152_20 rfl (pb_goto (pc := 20) (by decide)) ?_
    show t_X d 97 24 lv [oI (B p.toNat)] g P
    refine t_5 zsg152_24 rfl rfl ?_
    rw [tH_i (by omega)] at hP
    exact hP
theorem fl152_run {d : Nat} {g0 g : pH} {B : tC} {n : Int} (hB : tB152 g0 B n) {p m : Int} {c : tC} (hS : tS152 g0 g p m 0 c) {a b : Int} (ha : 1 ≤ a ∧ a ≤ 6) (hb : 0 ≤ b ∧ b ≤ 122) {P : Option pv × pH → Prop} (hP : ∀ g1 : pH, tS152 g0 g1 p m (-1000 * a - b) c → P (none, g1)) {lv : List (Nat × pv)} (l0 : px_lg lv 0 = some (pvR 152)) (l1 : px_lg lv 1 = some (oI a)) (l2 : px_lg lv 2 = some (oI b)) : t_X d 87 0 lv [] g P := by
  obtain ⟨hn0, hn1, hp1, hm1, hH⟩ := cm152 hB hS
  refine t_0 zfl152_0 rfl (ld_a l0) ?_
  refine t_0 zfl152_1 rfl (pq_cv eo_152 rfl (show cF g 152 5 = 0 from S_f hS 2 (Nat.le_of_ble_eq_true rfl))) ?_
  show t_X d 87 4 lv [oI 0] g P
  refine tz_ne zfl152_4 (by decide) ⟨by omega, by omega⟩ (fun c1 => absurd c1 (by omega)) (fun c1 => ?_)
  show t_X d 87 7 lv [] g P
  refine t_0 zfl152_7 rfl (ld_a l0) ?_
  refine t_0 zfl152_8 rfl (pq_s (by decide)) ?_
  refine t_0 zfl152_11 rfl (ld_i l1) ?_
  refine t_0 zfl152_12 rfl pq_mul ?_
  refine t_0 zfl152_13 rfl (ld_i l2) ?_
  refine t_0 zfl152_14 rfl pq_sub ?_
  refine ts_f (n := 2) rfl rfl (by decide) zfl152_15 rfl eo_152 hS wt_tW152_152_5 gy_152_5 (by decide) ⟨by omega, by omega⟩ (fun g2 hS2 => ?_)
  replace hS2 : tS152 g0 g2 p m ((-1000 * a) - b) c := hS2
  show t_X d 87 18 lv [] g2 P
  refine t_5 zfl152_18 rfl rfl ?_
  exact hP _ hS2
theorem fn152_run {d : Nat} {g0 g : pH} {B : tC} {n : Int} (hB : tB152 g0 B n) {p m f : Int} {c : tC} (hS : tS152 g0 g p m f c) (hf : f < 0) (hf2 : -9999 ≤ f) {a b : Int} {P : Option pv × pH → Prop} (hP : P (none, g)) {lv : List (Nat × pv)} (l0 : px_lg lv 0 = some (pvR 152)) : t_X d 87 0 lv [] g P := by
  obtain ⟨hn0, hn1, hp1, hm1, hH⟩ := cm152 hB hS
  refine t_0 zfl152_0 rfl (ld_a l0) ?_
  refine t_0 zfl152_1 rfl (pq_cv eo_152 rfl (show cF g 152 5 = f from S_f hS 2 (Nat.le_of_ble_eq_true rfl))) ?_
  show t_X d 87 4 lv [oI (f)] g P
  refine tz_ne zfl152_4 (by decide) ⟨by omega, by omega⟩ (fun c1 => ?_) (fun c1 => absurd c1 (by omega))
  show t_X d 87 18 lv [] g P
  refine t_5 zfl152_18 rfl rfl ?_
  exact hP
theorem ap152_run {d : Nat} {g0 g : pH} {B : tC} {n : Int} (hB : tB152 g0 B n) {p m f : Int} {c : tC} (hS : tS152 g0 g p m f c) {e : Int} (he : -40 ≤ e ∧ e ≤ 90) (hm : m < 540) {P : Option pv × pH → Prop} (h1 : m < 60 → ∀ g1 : pH, tS152 g0 g1 p (m + 1) f (updI c m.toNat e) → P (none, g1)) (h2 : 60 ≤ m → ∀ g1 : pH, tS152 g0 g1 p (m + 1) f c → P (none, g1)) {lv : List (Nat × pv)} (l0 : px_lg lv 0 = some (pvR 152)) (l1 : px_lg lv 1 = some (oI e)) : t_X d 86 0 lv [] g P := by
  obtain ⟨hn0, hn1, hp1, hm1, hH⟩ := cm152 hB hS
  refine t_0 zap152_0 rfl (ld_a l0) ?_
  refine t_0 zap152_1 rfl (pq_cv eo_152 rfl (show cF g 152 1 = m from S_f hS 1 (Nat.le_of_ble_eq_true rfl))) ?_
  show t_X d 86 4 lv [oI (m)] g P
  refine t_0 zap152_4 rfl (pq_b (by decide)) ?_
  refine tb_ge zap152_6 (by decide) ⟨by omega, by omega⟩ ⟨by omega, by omega⟩ (fun c1 => ?_) (fun c1 => ?_)
  · show t_X d 86 19 lv [] g P
    refine t_0 zap152_19 rfl (ld_a l0) ?_
    refine t_0 zap152_20 rfl rfl ?_
    refine t_0 zap152_21 rfl (pq_cv eo_152 rfl (show cF g 152 1 = m from S_f hS 1 (Nat.le_of_ble_eq_true rfl))) ?_
    show t_X d 86 24 lv [oI (m), pvR 152] g P
    refine t_0 zap152_24 rfl rfl ?_
    refine t_0 zap152_25 rfl pq_add ?_
    refine ts_f (n := 1) rfl rfl (by decide) zap152_26 rfl eo_152 hS wt_tW152_152_1 gy_152_1 (by decide) ⟨by omega, by omega⟩ (fun g2 hS2 => ?_)
    replace hS2 : tS152 g0 g2 p (m + 1) f c := hS2
    show t_X d 86 29 lv [] g2 P
    refine t_5 zap152_29 rfl rfl ?_
    exact h2 (by omega) _ hS2
  · show t_X d 86 9 lv [] g P
    refine t_0 zap152_9 rfl (ld_a l0) ?_
    refine t_0 zap152_10 rfl (cq_152_0 (S_J hS).1) ?_
    show t_X d 86 13 lv [pvR 153] g P
    refine t_0 zap152_13 rfl (ld_a l0) ?_
    refine t_0 zap152_14 rfl (pq_cv eo_152 rfl (show cF g 152 1 = m from S_f hS 1 (Nat.le_of_ble_eq_true rfl))) ?_
    show t_X d 86 17 lv [oI (m), pvR 153] g P
    refine t_0 zap152_17 rfl (ld_i l1) ?_
    refine ts_a (n := 0) rfl rfl (by decide) zap152_18 hS ez_153 rfl wu_tW152_153 gu_153 (by decide) ⟨by omega, by omega⟩ ⟨by omega, by omega⟩ (fun g3 hS3 => ?_)
    replace hS3 : tS152 g0 g3 p m f (updI c m.toNat e) := hS3
    show t_X d 86 19 lv [] g3 P
    refine t_0 zap152_19 rfl (ld_a l0) ?_
    refine t_0 zap152_20 rfl rfl ?_
    refine t_0 zap152_21 rfl (pq_cv eo_152 rfl (show cF g3 152 1 = m from S_f hS3 1 (Nat.le_of_ble_eq_true rfl))) ?_
    show t_X d 86 24 lv [oI (m), pvR 152] g3 P
    refine t_0 zap152_24 rfl rfl ?_
    refine t_0 zap152_25 rfl pq_add ?_
    refine ts_f (n := 1) rfl rfl (by decide) zap152_26 rfl eo_152 hS3 wt_tW152_152_1 gy_152_1 (by decide) ⟨by omega, by omega⟩ (fun g4 hS4 => ?_)
    replace hS4 : tS152 g0 g4 p (m + 1) f (updI c m.toNat e) := hS4
    show t_X d 86 29 lv [] g4 P
    refine t_5 zap152_29 rfl rfl ?_
    exact h1 (by omega) _ hS4
theorem sl152_run {d : Nat} {g0 g : pH} {B : tC} {n : Int} (hB : tB152 g0 B n) {p m f : Int} {c : tC} (hS : tS152 g0 g p m f c) {k : Int} (hk : -2147483648 ≤ k ∧ k ≤ 2147483647) {P : Option pv × pH → Prop} (h1 : 0 ≤ k ∧ k < m ∧ k < 60 → P (some (oI (c k.toNat)), g)) (h0 : ¬ (0 ≤ k ∧ k < m ∧ k < 60) → P (some (oI (-1)), g)) {lv : List (Nat × pv)} (l0 : px_lg lv 0 = some (pvR 152)) (l1 : px_lg lv 1 = some (oI k)) : t_X d 98 0 lv [] g P := by
  obtain ⟨hn0, hn1, hp1, hm1, hH⟩ := cm152 hB hS
  refine t_0 zsl152_0 rfl (ld_i l1) ?_
  refine tz_lt zsl152_1 (by decide) ⟨by omega, by omega⟩ (fun c1 => ?_) (fun c1 => ?_)
  · show t_X d 98 27 lv [] g P
    refine t_0 zsl152_27 rfl rfl ?_
    refine t_5 zsl152_28 rfl rfl ?_
    exact h0 (by omega)
  · show t_X d 98 4 lv [] g P
    refine t_0 zsl152_4 rfl (ld_i l1) ?_
    refine t_0 zsl152_5 rfl (ld_a l0) ?_
    refine t_0 zsl152_6 rfl (pq_cv eo_152 rfl (show cF g 152 1 = m from S_f hS 1 (Nat.le_of_ble_eq_true rfl))) ?_
    show t_X d 98 9 lv [oI (m), oI (k)] g P
    refine tb_ge zsl152_9 (by decide) ⟨by omega, by omega⟩ ⟨by omega, by omega⟩ (fun c2 => ?_) (fun c2 => ?_)
    · show t_X d 98 27 lv [] g P
      refine t_0 zsl152_27 rfl rfl ?_
      refine t_5 zsl152_28 rfl rfl ?_
      exact h0 (by omega)
    · show t_X d 98 12 lv [] g P
      refine t_0 zsl152_12 rfl (ld_i l1) ?_
      refine t_0 zsl152_13 rfl (pq_b (by decide)) ?_
      refine tb_ge zsl152_15 (by decide) ⟨by omega, by omega⟩ ⟨by omega, by omega⟩ (fun c3 => ?_) (fun c3 => ?_)
      · show t_X d 98 27 lv [] g P
        refine t_0 zsl152_27 rfl rfl ?_
        refine t_5 zsl152_28 rfl rfl ?_
        exact h0 (by omega)
      · show t_X d 98 18 lv [] g P
        refine t_0 zsl152_18 rfl (ld_a l0) ?_
        refine t_0 zsl152_19 rfl (cq_152_0 (S_J hS).1) ?_
        show t_X d 98 22 lv [pvR 153] g P
        refine t_0 zsl152_22 rfl (ld_i l1) ?_
        have r4 := pb_a (S_J hS).1 ez_153 (j := k.toNat) (by omega) gu_153 (show fA g 153 = c from S_a hS 0 (Nat.le_of_ble_eq_true rfl))
        refine t_0 zsl152_23 rfl (pq_iv ez_153 rfl ⟨by omega, by omega⟩ (show fA g 153 = c from S_a hS 0 (Nat.le_of_ble_eq_true rfl))) ?_
        show t_X d 98 24 lv [oI (c k.toNat)] g P
        refine t_1 zsl152_24 rfl (pb_goto (pc := 24) (by decide)) ?_
        show t_X d 98 28 lv [oI (c k.toNat)] g P
        refine t_5 zsl152_28 rfl rfl ?_
        exact h1 (by omega)
set_option maxHeartbeats 2000000 in
theorem nu152_run {d : Nat} (hd : 1 ≤ d) {g0 g : pH} {B : tC} {n : Int} (hB : tB152 g0 B n) {p m : Int} {c : tC} (hS : tS152 g0 g p m 0 c) {P : Option pv × pH → Prop} (hF : ∀ (g1 : pH) (f q v : Int), tS152 g0 g1 q m f c → tNf (tH B n) p f → P (some (oI v), g1)) (hO : ∀ (g1 : pH) (v q : Int), tS152 g0 g1 q m 0 c → tNu (tH B n) p v q → P (some (oI v), g1)) {lv : List (Nat × pv)} (l0 : px_lg lv 0 = some (pvR 152)) : t_X d 93 0 lv [] g P := by
  obtain ⟨hn0, hn1, hp1, hm1, hH⟩ := cm152 hB hS
  refine t_0 znu152_0 rfl (ld_a l0) ?_
  refine t_0 znu152_1 rfl (pq_cv eo_152 rfl (show cF g 152 4 = p from S_f hS 0 (Nat.le_of_ble_eq_true rfl))) ?_
  show t_X d 93 4 lv [oI (p)] g P
  refine t_2 znu152_4 rfl (w := (px_s1 lv 1 (oI (p)), [])) rfl ?_
  replace l0 : px_lg (px_s1 lv 1 (oI (p))) 0 = some (pvR 152) := s1_ne (by decide) (fun _ => rfl) l0
  have l1 : px_lg (px_s1 lv 1 (oI (p))) 1 = some (oI (p)) := s1_eq
  generalize px_s1 lv 1 (oI (p)) = lv1 at l0 l1 ⊢
  show t_X d 93 5 lv1 [] g P
  refine t_0 znu152_5 rfl rfl ?_
  refine t_2 znu152_6 rfl (w := (px_s1 lv1 2 (oI 0), [])) rfl ?_
  replace l0 : px_lg (px_s1 lv1 2 (oI 0)) 0 = some (pvR 152) := s1_ne (by decide) (fun _ => rfl) l0
  replace l1 : px_lg (px_s1 lv1 2 (oI 0)) 1 = some (oI (p)) := s1_ne (by decide) (fun _ => rfl) l1
  have l2 : px_lg (px_s1 lv1 2 (oI 0)) 2 = some (oI 0) := s1_eq
  generalize px_s1 lv1 2 (oI 0) = lv2 at l0 l1 l2 ⊢
  show t_X d 93 7 lv2 [] g P
  refine t_0 znu152_7 rfl rfl ?_
  refine t_2 znu152_8 rfl (w := (px_s1 lv2 3 (oI 0), [])) rfl ?_
  replace l0 : px_lg (px_s1 lv2 3 (oI 0)) 0 = some (pvR 152) := s1_ne (by decide) (fun _ => rfl) l0
  replace l1 : px_lg (px_s1 lv2 3 (oI 0)) 1 = some (oI (p)) := s1_ne (by decide) (fun _ => rfl) l1
  replace l2 : px_lg (px_s1 lv2 3 (oI 0)) 2 = some (oI 0) := s1_ne (by decide) (fun _ => rfl) l2
  have l3 : px_lg (px_s1 lv2 3 (oI 0)) 3 = some (oI 0) := s1_eq
  generalize px_s1 lv2 3 (oI 0) = lv3 at l0 l1 l2 l3 ⊢
  show t_X d 93 9 lv3 [] g P
  refine t_0 znu152_9 rfl (ld_i l3) ?_
  refine t_0 znu152_10 rfl rfl ?_
  refine tb_ge znu152_11 (by decide) ⟨by omega, by omega⟩ ⟨by omega, by omega⟩ (fun c4 => absurd c4 (by omega)) (fun c4 => ?_)
  show t_X d 93 14 lv3 [] g P
  refine t_0 znu152_14 rfl (ld_a l0) ?_
  refine t_3 znu152_15 rfl (ar := ([pvR 152], [])) (pcal_w (as := []) rfl rfl rfl eo_152) ⟨by omega, Nat.le_of_ble_eq_true rfl, Nat.le_of_ble_eq_true rfl, rfl⟩ ?_
  refine sg152_run hB hS ?_ rfl
  have b5 := hH p (by omega)
  have z5 := tH_n (B := B) (n := n) (p := p)
  show t_X d 93 18 lv3 [oI (tH B n p)] g P
  refine t_0 znu152_18 rfl (pq_b (by decide)) ?_
  refine t_0 znu152_20 rfl (pq_b (by decide)) ?_
  refine t_3 znu152_22 rfl (ar := ([oI (tH B n p), oI 48, oI 57], [])) (pcal_s ⟨Or.inr rfl, rfl, Nat.le_of_ble_eq_true rfl⟩) ⟨by omega, Nat.le_of_ble_eq_true rfl, Nat.le_of_ble_eq_true rfl, rfl⟩ ?_
  refine ii_run ⟨by omega, by omega⟩ ⟨by omega, by omega⟩ ⟨by omega, by omega⟩ rfl rfl rfl (fun t6 => ?_) (fun t6 => ?_)
  · show t_X d 93 25 lv3 [oI 1] g P
    refine tz_eq znu152_25 (by decide) ⟨by omega, by omega⟩ (fun c7 => absurd c7 (by omega)) (fun c7 => ?_)
    show t_X d 93 28 lv3 [] g P
    refine t_0 znu152_28 rfl (pq_b (by decide)) ?_
    refine t_0 znu152_30 rfl (ld_i l2) ?_
    refine t_0 znu152_31 rfl pq_mul ?_
    refine t_0 znu152_32 rfl (ld_a l0) ?_
    refine t_3 znu152_33 rfl (ar := ([pvR 152], [oI (10 * 0)])) (pcal_w (as := []) rfl rfl rfl eo_152) ⟨by omega, Nat.le_of_ble_eq_true rfl, Nat.le_of_ble_eq_true rfl, rfl⟩ ?_
    refine sg152_run hB hS ?_ rfl
    show t_X d 93 36 lv3 [oI (tH B n p), oI (10 * 0)] g P
    refine t_0 znu152_36 rfl pq_add ?_
    refine t_0 znu152_37 rfl (pq_b (by decide)) ?_
    refine t_0 znu152_39 rfl pq_sub ?_
    refine t_2 znu152_40 rfl (w := (px_s1 lv3 2 (oI (((10 * 0) + (tH B n p)) - 48)), [])) rfl ?_
    replace l0 : px_lg (px_s1 lv3 2 (oI (((10 * 0) + (tH B n p)) - 48))) 0 = some (pvR 152) := s1_ne (by decide) (fun _ => rfl) l0
    replace l1 : px_lg (px_s1 lv3 2 (oI (((10 * 0) + (tH B n p)) - 48))) 1 = some (oI (p)) := s1_ne (by decide) (fun _ => rfl) l1
    replace l3 : px_lg (px_s1 lv3 2 (oI (((10 * 0) + (tH B n p)) - 48))) 3 = some (oI 0) := s1_ne (by decide) (fun _ => rfl) l3
    have l2 : px_lg (px_s1 lv3 2 (oI (((10 * 0) + (tH B n p)) - 48))) 2 = some (oI (((10 * 0) + (tH B n p)) - 48)) := s1_eq
    generalize px_s1 lv3 2 (oI (((10 * 0) + (tH B n p)) - 48)) = lv8 at l0 l1 l3 l2 ⊢
    show t_X d 93 41 lv8 [] g P
    refine t_0 znu152_41 rfl (ld_a l0) ?_
    refine t_0 znu152_42 rfl rfl ?_
    refine t_0 znu152_43 rfl (pq_cv eo_152 rfl (show cF g 152 4 = p from S_f hS 0 (Nat.le_of_ble_eq_true rfl))) ?_
    show t_X d 93 46 lv8 [oI (p), pvR 152] g P
    refine t_0 znu152_46 rfl rfl ?_
    refine t_0 znu152_47 rfl pq_add ?_
    refine ts_f (n := 0) rfl rfl (by decide) znu152_48 rfl eo_152 hS wt_tW152_152_4 gy_152_4 (by decide) ⟨by omega, by omega⟩ (fun g9 hS9 => ?_)
    replace hS9 : tS152 g0 g9 (p + 1) m 0 c := hS9
    show t_X d 93 51 lv8 [] g9 P
    refine t_2 znu152_51 rfl (w := (px_s1 lv8 3 (oI 1), [])) (pq_inc l3 (by decide)) ?_
    replace l0 : px_lg (px_s1 lv8 3 (oI 1)) 0 = some (pvR 152) := s1_ne (by decide) (fun _ => rfl) l0
    replace l1 : px_lg (px_s1 lv8 3 (oI 1)) 1 = some (oI (p)) := s1_ne (by decide) (fun _ => rfl) l1
    replace l2 : px_lg (px_s1 lv8 3 (oI 1)) 2 = some (oI (((10 * 0) + (tH B n p)) - 48)) := s1_ne (by decide) (fun _ => rfl) l2
    have l3 : px_lg (px_s1 lv8 3 (oI 1)) 3 = some (oI 1) := s1_eq
    generalize px_s1 lv8 3 (oI 1) = lv10 at l0 l1 l2 l3 ⊢
    show t_X d 93 54 lv10 [] g9 P
    refine t_1 znu152_54 rfl (pb_goto (pc := 54) (by decide)) ?_
    show t_X d 93 9 lv10 [] g9 P
    refine t_0 znu152_9 rfl (ld_i l3) ?_
    refine t_0 znu152_10 rfl rfl ?_
    refine tb_ge znu152_11 (by decide) ⟨by omega, by omega⟩ ⟨by omega, by omega⟩ (fun c11 => absurd c11 (by omega)) (fun c11 => ?_)
    show t_X d 93 14 lv10 [] g9 P
    refine t_0 znu152_14 rfl (ld_a l0) ?_
    refine t_3 znu152_15 rfl (ar := ([pvR 152], [])) (pcal_w (as := []) rfl rfl rfl eo_152) ⟨by omega, Nat.le_of_ble_eq_true rfl, Nat.le_of_ble_eq_true rfl, rfl⟩ ?_
    refine sg152_run hB hS9 ?_ rfl
    have b12 := hH (p + 1) (by omega)
    have z12 := tH_n (B := B) (n := n) (p := p + 1)
    show t_X d 93 18 lv10 [oI (tH B n (p + 1))] g9 P
    refine t_0 znu152_18 rfl (pq_b (by decide)) ?_
    refine t_0 znu152_20 rfl (pq_b (by decide)) ?_
    refine t_3 znu152_22 rfl (ar := ([oI (tH B n (p + 1)), oI 48, oI 57], [])) (pcal_s ⟨Or.inr rfl, rfl, Nat.le_of_ble_eq_true rfl⟩) ⟨by omega, Nat.le_of_ble_eq_true rfl, Nat.le_of_ble_eq_true rfl, rfl⟩ ?_
    refine ii_run ⟨by omega, by omega⟩ ⟨by omega, by omega⟩ ⟨by omega, by omega⟩ rfl rfl rfl (fun t13 => ?_) (fun t13 => ?_)
    · show t_X d 93 25 lv10 [oI 1] g9 P
      refine tz_eq znu152_25 (by decide) ⟨by omega, by omega⟩ (fun c14 => absurd c14 (by omega)) (fun c14 => ?_)
      show t_X d 93 28 lv10 [] g9 P
      refine t_0 znu152_28 rfl (pq_b (by decide)) ?_
      refine t_0 znu152_30 rfl (ld_i l2) ?_
      refine t_0 znu152_31 rfl pq_mul ?_
      refine t_0 znu152_32 rfl (ld_a l0) ?_
      refine t_3 znu152_33 rfl (ar := ([pvR 152], [oI (10 * (((10 * 0) + (tH B n p)) - 48))])) (pcal_w (as := []) rfl rfl rfl eo_152) ⟨by omega, Nat.le_of_ble_eq_true rfl, Nat.le_of_ble_eq_true rfl, rfl⟩ ?_
      refine sg152_run hB hS9 ?_ rfl
      show t_X d 93 36 lv10 [oI (tH B n (p + 1)), oI (10 * (((10 * 0) + (tH B n p)) - 48))] g9 P
      refine t_0 znu152_36 rfl pq_add ?_
      refine t_0 znu152_37 rfl (pq_b (by decide)) ?_
      refine t_0 znu152_39 rfl pq_sub ?_
      refine t_2 znu152_40 rfl (w := (px_s1 lv10 2 (oI (((10 * (((10 * 0) + (tH B n p)) - 48)) + (tH B n (p + 1))) - 48)), [])) rfl ?_
      replace l0 : px_lg (px_s1 lv10 2 (oI (((10 * (((10 * 0) + (tH B n p)) - 48)) + (tH B n (p + 1))) - 48))) 0 = some (pvR 152) := s1_ne (by decide) (fun _ => rfl) l0
      replace l1 : px_lg (px_s1 lv10 2 (oI (((10 * (((10 * 0) + (tH B n p)) - 48)) + (tH B n (p + 1))) - 48))) 1 = some (oI (p)) := s1_ne (by decide) (fun _ => rfl) l1
      replace l3 : px_lg (px_s1 lv10 2 (oI (((10 * (((10 * 0) + (tH B n p)) - 48)) + (tH B n (p + 1))) - 48))) 3 = some (oI 1) := s1_ne (by decide) (fun _ => rfl) l3
      have l2 : px_lg (px_s1 lv10 2 (oI (((10 * (((10 * 0) + (tH B n p)) - 48)) + (tH B n (p + 1))) - 48))) 2 = some (oI (((10 * (((10 * 0) + (tH B n p)) - 48)) + (tH B n (p + 1))) - 48)) := s1_eq
      generalize px_s1 lv10 2 (oI (((10 * (((10 * 0) + (tH B n p)) - 48)) + (tH B n (p + 1))) - 48)) = lv15 at l0 l1 l3 l2 ⊢
      show t_X d 93 41 lv15 [] g9 P
      refine t_0 znu152_41 rfl (ld_a l0) ?_
      refine t_0 znu152_42 rfl rfl ?_
      refine t_0 znu152_43 rfl (pq_cv eo_152 rfl (show cF g9 152 4 = p + 1 from S_f hS9 0 (Nat.le_of_ble_eq_true rfl))) ?_
      show t_X d 93 46 lv15 [oI (p + 1), pvR 152] g9 P
      refine t_0 znu152_46 rfl rfl ?_
      refine t_0 znu152_47 rfl pq_add ?_
      refine ts_f (n := 0) rfl rfl (by decide) znu152_48 rfl eo_152 hS9 wt_tW152_152_4 gy_152_4 (by decide) ⟨by omega, by omega⟩ (fun g16 hS16 => ?_)
      replace hS16 : tS152 g0 g16 ((p + 1) + 1) m 0 c := hS16
      show t_X d 93 51 lv15 [] g16 P
      refine t_2 znu152_51 rfl (w := (px_s1 lv15 3 (oI 2), [])) (pq_inc l3 (by decide)) ?_
      replace l0 : px_lg (px_s1 lv15 3 (oI 2)) 0 = some (pvR 152) := s1_ne (by decide) (fun _ => rfl) l0
      replace l1 : px_lg (px_s1 lv15 3 (oI 2)) 1 = some (oI (p)) := s1_ne (by decide) (fun _ => rfl) l1
      replace l2 : px_lg (px_s1 lv15 3 (oI 2)) 2 = some (oI (((10 * (((10 * 0) + (tH B n p)) - 48)) + (tH B n (p + 1))) - 48)) := s1_ne (by decide) (fun _ => rfl) l2
      have l3 : px_lg (px_s1 lv15 3 (oI 2)) 3 = some (oI 2) := s1_eq
      generalize px_s1 lv15 3 (oI 2) = lv17 at l0 l1 l2 l3 ⊢
      show t_X d 93 54 lv17 [] g16 P
      refine t_1 znu152_54 rfl (pb_goto (pc := 54) (by decide)) ?_
      show t_X d 93 9 lv17 [] g16 P
      refine t_0 znu152_9 rfl (ld_i l3) ?_
      refine t_0 znu152_10 rfl rfl ?_
      refine tb_ge znu152_11 (by decide) ⟨by omega, by omega⟩ ⟨by omega, by omega⟩ (fun c18 => ?_) (fun c18 => absurd c18 (by omega))
      show t_X d 93 57 lv17 [] g16 P
      refine t_0 znu152_57 rfl (ld_a l0) ?_
      refine t_0 znu152_58 rfl (pq_cv eo_152 rfl (show cF g16 152 4 = (p + 1) + 1 from S_f hS16 0 (Nat.le_of_ble_eq_true rfl))) ?_
      show t_X d 93 61 lv17 [oI ((p + 1) + 1)] g16 P
      refine t_0 znu152_61 rfl (ld_i l1) ?_
      refine tb_ne znu152_62 (by decide) ⟨by omega, by omega⟩ ⟨by omega, by omega⟩ (fun c19 => ?_) (fun c19 => absurd c19 (by omega))
      show t_X d 93 77 lv17 [] g16 P
      refine t_0 znu152_77 rfl (ld_i l2) ?_
      refine t_0 znu152_78 rfl (pq_b (by decide)) ?_
      refine tb_lt znu152_80 (by decide) ⟨by omega, by omega⟩ ⟨by omega, by omega⟩ (fun c20 => ?_) (fun c20 => ?_)
      · show t_X d 93 89 lv17 [] g16 P
        refine t_0 znu152_89 rfl (ld_i l2) ?_
        refine t_5 znu152_90 rfl rfl ?_
        refine hO _ _ _ hS16 ?_
        unfold tNu tDg
        omega
      · show t_X d 93 83 lv17 [] g16 P
        refine t_0 znu152_83 rfl (ld_a l0) ?_
        refine t_0 znu152_84 rfl rfl ?_
        refine t_0 znu152_85 rfl (ld_i l1) ?_
        refine t_3 znu152_86 rfl (ar := ([pvR 152, oI 3, oI (p)], [])) (pcal_w (as := [oI (p), oI 3]) rfl rfl rfl eo_152) ⟨by omega, Nat.le_of_ble_eq_true rfl, Nat.le_of_ble_eq_true rfl, rfl⟩ ?_
        refine fl152_run hB hS16 ⟨by omega, by omega⟩ ⟨by omega, by omega⟩ (fun g21 hS21 => ?_) rfl rfl rfl
        replace hS21 : tS152 g0 g21 ((p + 1) + 1) m (-1000 * 3 - p) c := hS21
        show t_X d 93 89 lv17 [] g21 P
        refine t_0 znu152_89 rfl (ld_i l2) ?_
        refine t_5 znu152_90 rfl rfl ?_
        exact hF _ _ _ _ hS21 (by unfold tNf tDg; omega)
    · show t_X d 93 25 lv10 [oI 0] g9 P
      refine tz_eq znu152_25 (by decide) ⟨by omega, by omega⟩ (fun c22 => ?_) (fun c22 => absurd c22 (by omega))
      show t_X d 93 57 lv10 [] g9 P
      refine t_0 znu152_57 rfl (ld_a l0) ?_
      refine t_0 znu152_58 rfl (pq_cv eo_152 rfl (show cF g9 152 4 = p + 1 from S_f hS9 0 (Nat.le_of_ble_eq_true rfl))) ?_
      show t_X d 93 61 lv10 [oI (p + 1)] g9 P
      refine t_0 znu152_61 rfl (ld_i l1) ?_
      refine tb_ne znu152_62 (by decide) ⟨by omega, by omega⟩ ⟨by omega, by omega⟩ (fun c23 => ?_) (fun c23 => absurd c23 (by omega))
      show t_X d 93 77 lv10 [] g9 P
      refine t_0 znu152_77 rfl (ld_i l2) ?_
      refine t_0 znu152_78 rfl (pq_b (by decide)) ?_
      refine tb_lt znu152_80 (by decide) ⟨by omega, by omega⟩ ⟨by omega, by omega⟩ (fun c24 => ?_) (fun c24 => absurd c24 (by omega))
      show t_X d 93 89 lv10 [] g9 P
      refine t_0 znu152_89 rfl (ld_i l2) ?_
      refine t_5 znu152_90 rfl rfl ?_
      refine hO _ _ _ hS9 ?_
      unfold tNu tDg
      omega
  · show t_X d 93 25 lv3 [oI 0] g P
    refine tz_eq znu152_25 (by decide) ⟨by omega, by omega⟩ (fun c25 => ?_) (fun c25 => absurd c25 (by omega))
    show t_X d 93 57 lv3 [] g P
    refine t_0 znu152_57 rfl (ld_a l0) ?_
    refine t_0 znu152_58 rfl (pq_cv eo_152 rfl (show cF g 152 4 = p from S_f hS 0 (Nat.le_of_ble_eq_true rfl))) ?_
    show t_X d 93 61 lv3 [oI (p)] g P
    refine t_0 znu152_61 rfl (ld_i l1) ?_
    refine tb_ne znu152_62 (by decide) ⟨by omega, by omega⟩ ⟨by omega, by omega⟩ (fun c26 => absurd c26 (by omega)) (fun c26 => ?_)
    show t_X d 93 65 lv3 [] g P
    refine t_0 znu152_65 rfl (ld_a l0) ?_
    refine t_0 znu152_66 rfl rfl ?_
    refine t_0 znu152_67 rfl (ld_a l0) ?_
    refine t_0 znu152_68 rfl (pq_cv eo_152 rfl (show cF g 152 4 = p from S_f hS 0 (Nat.le_of_ble_eq_true rfl))) ?_
    show t_X d 93 71 lv3 [oI (p), oI 1, pvR 152] g P
    refine t_3 znu152_71 rfl (ar := ([pvR 152, oI 1, oI (p)], [])) (pcal_w (as := [oI (p), oI 1]) rfl rfl rfl eo_152) ⟨by omega, Nat.le_of_ble_eq_true rfl, Nat.le_of_ble_eq_true rfl, rfl⟩ ?_
    refine fl152_run hB hS ⟨by omega, by omega⟩ ⟨by omega, by omega⟩ (fun g27 hS27 => ?_) rfl rfl rfl
    replace hS27 : tS152 g0 g27 p m (-1000 * 1 - p) c := hS27
    show t_X d 93 74 lv3 [] g27 P
    refine t_1 znu152_74 rfl (pb_goto (pc := 74) (by decide)) ?_
    show t_X d 93 89 lv3 [] g27 P
    refine t_0 znu152_89 rfl (ld_i l2) ?_
    refine t_5 znu152_90 rfl rfl ?_
    exact hF _ _ _ _ hS27 (by unfold tNf tDg; omega)
set_option maxHeartbeats 2000000 in
theorem rl152p {d : Nat} (hd : 1 ≤ d) {g0 : pH} {B : tC} {n : Int} (hB : tB152 g0 B n) {p m a z : Int} (ha : 0 ≤ a ∧ a ≤ 31 ∧ 0 ≤ z ∧ z ≤ 31 ∧ a ≤ z) (hm : 0 ≤ m ∧ m ≤ 60) {c0 : tC} {P : Option pv × pH → Prop} (hO : ∀ (g1 : pH) (c1 : tC), tS152 g0 g1 p (m + (z - a + 1)) 0 c1 → (∀ j : Nat, (j : Int) < m → c1 j = c0 j) → (∀ i : Nat, (i : Int) < z - a + 1 → m + i < 60 → c1 (m + i).toNat = a + (i : Int)) → P (none, g1)) : ∀ (y k : Nat) (g : pH) (lv : List (Nat × pv)) {c : tC}, z - a + 1 - k ≤ y → (k : Int) ≤ z - a + 1 → tS152 g0 g p (m + (k : Int)) 0 c → ((∀ j : Nat, (j : Int) < m → c j = c0 j) ∧ ∀ i : Nat, i < k → m + i < 60 → c (m + i).toNat = a + (i : Int)) → px_lg lv 0 = some (pvR 152) → px_lg lv 1 = some (oI a) → px_lg lv 2 = some (oI z) → px_lg lv 3 = some (oI 1) → px_lg lv 4 = some (oI (z - a + 1)) → px_lg lv 5 = some (oI (k : Int)) → t_X d 95 70 lv [] g P := by
  intro y
  induction y with
  | zero =>
    intro k g lv c hy hk hS hc l0 l1 l2 l3 l4 l5
    have ek0 : (k : Int) = z - a + 1 := by omega
    refine t_0 zrw152_70 rfl (ld_i l5) ?_
    refine t_0 zrw152_72 rfl (ld_i l4) ?_
    refine tb_ge zrw152_74 (by decide) ⟨by omega, by omega⟩ ⟨by omega, by omega⟩ (fun c1 => ?_) (fun c1 => absurd c1 (by omega))
    show t_X d 95 93 lv [] g P
    refine t_5 zrw152_93 rfl rfl ?_
    have ek : (k : Int) = z - a + 1 := by omega
    rw [ek] at hS
    exact hO _ _ hS hc.1 (fun i hi h6 => hc.2 i (by omega) h6)
  | succ y ih =>
    intro k g lv c hy hk hS hc l0 l1 l2 l3 l4 l5
    by_cases hkk : (k : Int) < z - a + 1
    · skip
      refine t_0 zrw152_70 rfl (ld_i l5) ?_
      refine t_0 zrw152_72 rfl (ld_i l4) ?_
      refine tb_ge zrw152_74 (by decide) ⟨by omega, by omega⟩ ⟨by omega, by omega⟩ (fun c1 => absurd c1 (by omega)) (fun c1 => ?_)
      show t_X d 95 77 lv [] g P
      refine t_0 zrw152_77 rfl (ld_a l0) ?_
      refine t_0 zrw152_78 rfl (ld_i l1) ?_
      refine t_0 zrw152_79 rfl (ld_i l5) ?_
      refine t_0 zrw152_81 rfl (ld_i l3) ?_
      refine t_0 zrw152_82 rfl pq_mul ?_
      refine t_0 zrw152_83 rfl pq_add ?_
      refine t_3 zrw152_84 rfl (ar := ([pvR 152, oI (a + ((k : Int) * 1))], [])) (pcal_w (as := [oI (a + ((k : Int) * 1))]) rfl rfl rfl eo_152) ⟨by omega, Nat.le_of_ble_eq_true rfl, Nat.le_of_ble_eq_true rfl, rfl⟩ ?_
      refine ap152_run hB hS ⟨by omega, by omega⟩ (by omega) (fun t2 g2 hS2 => ?_) (fun t2 g2 hS2 => ?_) rfl rfl
      · replace hS2 : tS152 g0 g2 p ((m + (k : Int)) + 1) 0 (updI c (m + (k : Int)).toNat (a + ((k : Int) * 1))) := hS2
        show t_X d 95 87 lv [] g2 P
        refine t_2 zrw152_87 rfl (w := (px_s1 lv 5 (oI ((k : Int) + 1)), [])) (pq_inc l5 (by decide)) ?_
        replace l0 : px_lg (px_s1 lv 5 (oI ((k : Int) + 1))) 0 = some (pvR 152) := s1_ne (by decide) (fun _ => rfl) l0
        replace l1 : px_lg (px_s1 lv 5 (oI ((k : Int) + 1))) 1 = some (oI (a)) := s1_ne (by decide) (fun _ => rfl) l1
        replace l2 : px_lg (px_s1 lv 5 (oI ((k : Int) + 1))) 2 = some (oI (z)) := s1_ne (by decide) (fun _ => rfl) l2
        replace l3 : px_lg (px_s1 lv 5 (oI ((k : Int) + 1))) 3 = some (oI 1) := s1_ne (by decide) (fun _ => rfl) l3
        replace l4 : px_lg (px_s1 lv 5 (oI ((k : Int) + 1))) 4 = some (oI (z - a + 1)) := s1_ne (by decide) (fun _ => rfl) l4
        have l5 : px_lg (px_s1 lv 5 (oI ((k : Int) + 1))) 5 = some (oI ((k : Int) + 1)) := s1_eq
        generalize px_s1 lv 5 (oI ((k : Int) + 1)) = lv3 at l0 l1 l2 l3 l4 l5 ⊢
        show t_X d 95 90 lv3 [] g2 P
        refine t_1 zrw152_90 rfl (pb_goto (pc := 90) (by decide)) ?_
        show t_X d 95 70 lv3 [] g2 P
        refine ih (k + 1) _ _ (by omega) (by omega) (show tS152 g0 g2 p (m + ((k + 1 : Nat) : Int)) 0 (updI c (m + (k : Int)).toNat (a + ((k : Int) * 1))) by rw [show m + ((k + 1 : Nat) : Int) = m + (k : Int) + 1 by omega]; exact hS2) ⟨fun j hj => ?_, fun i hi h6 => ?_⟩ l0 l1 l2 l3 l4 l5
        · unfold updI
          rw [if_neg (by omega)]
          exact hc.1 j hj
        · unfold updI
          by_cases e : i = k
          · subst e; rw [if_pos rfl]; omega
          · rw [if_neg (by omega)]; exact hc.2 i (by omega) h6
      · replace hS2 : tS152 g0 g2 p ((m + (k : Int)) + 1) 0 c := hS2
        show t_X d 95 87 lv [] g2 P
        refine t_2 zrw152_87 rfl (w := (px_s1 lv 5 (oI ((k : Int) + 1)), [])) (pq_inc l5 (by decide)) ?_
        replace l0 : px_lg (px_s1 lv 5 (oI ((k : Int) + 1))) 0 = some (pvR 152) := s1_ne (by decide) (fun _ => rfl) l0
        replace l1 : px_lg (px_s1 lv 5 (oI ((k : Int) + 1))) 1 = some (oI (a)) := s1_ne (by decide) (fun _ => rfl) l1
        replace l2 : px_lg (px_s1 lv 5 (oI ((k : Int) + 1))) 2 = some (oI (z)) := s1_ne (by decide) (fun _ => rfl) l2
        replace l3 : px_lg (px_s1 lv 5 (oI ((k : Int) + 1))) 3 = some (oI 1) := s1_ne (by decide) (fun _ => rfl) l3
        replace l4 : px_lg (px_s1 lv 5 (oI ((k : Int) + 1))) 4 = some (oI (z - a + 1)) := s1_ne (by decide) (fun _ => rfl) l4
        have l5 : px_lg (px_s1 lv 5 (oI ((k : Int) + 1))) 5 = some (oI ((k : Int) + 1)) := s1_eq
        generalize px_s1 lv 5 (oI ((k : Int) + 1)) = lv4 at l0 l1 l2 l3 l4 l5 ⊢
        show t_X d 95 90 lv4 [] g2 P
        refine t_1 zrw152_90 rfl (pb_goto (pc := 90) (by decide)) ?_
        show t_X d 95 70 lv4 [] g2 P
        refine ih (k + 1) _ _ (by omega) (by omega) (show tS152 g0 g2 p (m + ((k + 1 : Nat) : Int)) 0 c by rw [show m + ((k + 1 : Nat) : Int) = m + (k : Int) + 1 by omega]; exact hS2) ⟨fun j hj => ?_, fun i hi h6 => ?_⟩ l0 l1 l2 l3 l4 l5
        · exact hc.1 j hj
        · exact hc.2 i (by omega) h6
    · skip
      refine t_0 zrw152_70 rfl (ld_i l5) ?_
      refine t_0 zrw152_72 rfl (ld_i l4) ?_
      refine tb_ge zrw152_74 (by decide) ⟨by omega, by omega⟩ ⟨by omega, by omega⟩ (fun c1 => ?_) (fun c1 => absurd c1 (by omega))
      show t_X d 95 93 lv [] g P
      refine t_5 zrw152_93 rfl rfl ?_
      have ek : (k : Int) = z - a + 1 := by omega
      rw [ek] at hS
      exact hO _ _ hS hc.1 (fun i hi h6 => hc.2 i (by omega) h6)
set_option maxHeartbeats 2000000 in
theorem rl152m {d : Nat} (hd : 1 ≤ d) {g0 : pH} {B : tC} {n : Int} (hB : tB152 g0 B n) {p m a z : Int} (ha : 0 ≤ a ∧ a ≤ 31 ∧ 0 ≤ z ∧ z ≤ 31 ∧ z < a) (hm : 0 ≤ m ∧ m ≤ 60) {c0 : tC} {P : Option pv × pH → Prop} (hO : ∀ (g1 : pH) (c1 : tC), tS152 g0 g1 p (m + (a - z + 1)) 0 c1 → (∀ j : Nat, (j : Int) < m → c1 j = c0 j) → (∀ i : Nat, (i : Int) < a - z + 1 → m + i < 60 → c1 (m + i).toNat = a - (i : Int)) → P (none, g1)) : ∀ (y k : Nat) (g : pH) (lv : List (Nat × pv)) {c : tC}, a - z + 1 - k ≤ y → (k : Int) ≤ a - z + 1 → tS152 g0 g p (m + (k : Int)) 0 c → ((∀ j : Nat, (j : Int) < m → c j = c0 j) ∧ ∀ i : Nat, i < k → m + i < 60 → c (m + i).toNat = a - (i : Int)) → px_lg lv 0 = some (pvR 152) → px_lg lv 1 = some (oI a) → px_lg lv 2 = some (oI z) → px_lg lv 3 = some (oI (-1)) → px_lg lv 4 = some (oI (a - z + 1)) → px_lg lv 5 = some (oI (k : Int)) → t_X d 95 70 lv [] g P := by
  intro y
  induction y with
  | zero =>
    intro k g lv c hy hk hS hc l0 l1 l2 l3 l4 l5
    have ek0 : (k : Int) = a - z + 1 := by omega
    refine t_0 zrw152_70 rfl (ld_i l5) ?_
    refine t_0 zrw152_72 rfl (ld_i l4) ?_
    refine tb_ge zrw152_74 (by decide) ⟨by omega, by omega⟩ ⟨by omega, by omega⟩ (fun c1 => ?_) (fun c1 => absurd c1 (by omega))
    show t_X d 95 93 lv [] g P
    refine t_5 zrw152_93 rfl rfl ?_
    have ek : (k : Int) = a - z + 1 := by omega
    rw [ek] at hS
    exact hO _ _ hS hc.1 (fun i hi h6 => hc.2 i (by omega) h6)
  | succ y ih =>
    intro k g lv c hy hk hS hc l0 l1 l2 l3 l4 l5
    by_cases hkk : (k : Int) < a - z + 1
    · skip
      refine t_0 zrw152_70 rfl (ld_i l5) ?_
      refine t_0 zrw152_72 rfl (ld_i l4) ?_
      refine tb_ge zrw152_74 (by decide) ⟨by omega, by omega⟩ ⟨by omega, by omega⟩ (fun c1 => absurd c1 (by omega)) (fun c1 => ?_)
      show t_X d 95 77 lv [] g P
      refine t_0 zrw152_77 rfl (ld_a l0) ?_
      refine t_0 zrw152_78 rfl (ld_i l1) ?_
      refine t_0 zrw152_79 rfl (ld_i l5) ?_
      refine t_0 zrw152_81 rfl (ld_i l3) ?_
      refine t_0 zrw152_82 rfl pq_mul ?_
      refine t_0 zrw152_83 rfl pq_add ?_
      refine t_3 zrw152_84 rfl (ar := ([pvR 152, oI (a + ((k : Int) * (-1)))], [])) (pcal_w (as := [oI (a + ((k : Int) * (-1)))]) rfl rfl rfl eo_152) ⟨by omega, Nat.le_of_ble_eq_true rfl, Nat.le_of_ble_eq_true rfl, rfl⟩ ?_
      refine ap152_run hB hS ⟨by omega, by omega⟩ (by omega) (fun t2 g2 hS2 => ?_) (fun t2 g2 hS2 => ?_) rfl rfl
      · replace hS2 : tS152 g0 g2 p ((m + (k : Int)) + 1) 0 (updI c (m + (k : Int)).toNat (a + ((k : Int) * (-1)))) := hS2
        show t_X d 95 87 lv [] g2 P
        refine t_2 zrw152_87 rfl (w := (px_s1 lv 5 (oI ((k : Int) + 1)), [])) (pq_inc l5 (by decide)) ?_
        replace l0 : px_lg (px_s1 lv 5 (oI ((k : Int) + 1))) 0 = some (pvR 152) := s1_ne (by decide) (fun _ => rfl) l0
        replace l1 : px_lg (px_s1 lv 5 (oI ((k : Int) + 1))) 1 = some (oI (a)) := s1_ne (by decide) (fun _ => rfl) l1
        replace l2 : px_lg (px_s1 lv 5 (oI ((k : Int) + 1))) 2 = some (oI (z)) := s1_ne (by decide) (fun _ => rfl) l2
        replace l3 : px_lg (px_s1 lv 5 (oI ((k : Int) + 1))) 3 = some (oI (-1)) := s1_ne (by decide) (fun _ => rfl) l3
        replace l4 : px_lg (px_s1 lv 5 (oI ((k : Int) + 1))) 4 = some (oI (a - z + 1)) := s1_ne (by decide) (fun _ => rfl) l4
        have l5 : px_lg (px_s1 lv 5 (oI ((k : Int) + 1))) 5 = some (oI ((k : Int) + 1)) := s1_eq
        generalize px_s1 lv 5 (oI ((k : Int) + 1)) = lv3 at l0 l1 l2 l3 l4 l5 ⊢
        show t_X d 95 90 lv3 [] g2 P
        refine t_1 zrw152_90 rfl (pb_goto (pc := 90) (by decide)) ?_
        show t_X d 95 70 lv3 [] g2 P
        refine ih (k + 1) _ _ (by omega) (by omega) (show tS152 g0 g2 p (m + ((k + 1 : Nat) : Int)) 0 (updI c (m + (k : Int)).toNat (a + ((k : Int) * (-1)))) by rw [show m + ((k + 1 : Nat) : Int) = m + (k : Int) + 1 by omega]; exact hS2) ⟨fun j hj => ?_, fun i hi h6 => ?_⟩ l0 l1 l2 l3 l4 l5
        · unfold updI
          rw [if_neg (by omega)]
          exact hc.1 j hj
        · unfold updI
          by_cases e : i = k
          · subst e; rw [if_pos rfl]; omega
          · rw [if_neg (by omega)]; exact hc.2 i (by omega) h6
      · replace hS2 : tS152 g0 g2 p ((m + (k : Int)) + 1) 0 c := hS2
        show t_X d 95 87 lv [] g2 P
        refine t_2 zrw152_87 rfl (w := (px_s1 lv 5 (oI ((k : Int) + 1)), [])) (pq_inc l5 (by decide)) ?_
        replace l0 : px_lg (px_s1 lv 5 (oI ((k : Int) + 1))) 0 = some (pvR 152) := s1_ne (by decide) (fun _ => rfl) l0
        replace l1 : px_lg (px_s1 lv 5 (oI ((k : Int) + 1))) 1 = some (oI (a)) := s1_ne (by decide) (fun _ => rfl) l1
        replace l2 : px_lg (px_s1 lv 5 (oI ((k : Int) + 1))) 2 = some (oI (z)) := s1_ne (by decide) (fun _ => rfl) l2
        replace l3 : px_lg (px_s1 lv 5 (oI ((k : Int) + 1))) 3 = some (oI (-1)) := s1_ne (by decide) (fun _ => rfl) l3
        replace l4 : px_lg (px_s1 lv 5 (oI ((k : Int) + 1))) 4 = some (oI (a - z + 1)) := s1_ne (by decide) (fun _ => rfl) l4
        have l5 : px_lg (px_s1 lv 5 (oI ((k : Int) + 1))) 5 = some (oI ((k : Int) + 1)) := s1_eq
        generalize px_s1 lv 5 (oI ((k : Int) + 1)) = lv4 at l0 l1 l2 l3 l4 l5 ⊢
        show t_X d 95 90 lv4 [] g2 P
        refine t_1 zrw152_90 rfl (pb_goto (pc := 90) (by decide)) ?_
        show t_X d 95 70 lv4 [] g2 P
        refine ih (k + 1) _ _ (by omega) (by omega) (show tS152 g0 g2 p (m + ((k + 1 : Nat) : Int)) 0 c by rw [show m + ((k + 1 : Nat) : Int) = m + (k : Int) + 1 by omega]; exact hS2) ⟨fun j hj => ?_, fun i hi h6 => ?_⟩ l0 l1 l2 l3 l4 l5
        · exact hc.1 j hj
        · exact hc.2 i (by omega) h6
    · skip
      refine t_0 zrw152_70 rfl (ld_i l5) ?_
      refine t_0 zrw152_72 rfl (ld_i l4) ?_
      refine tb_ge zrw152_74 (by decide) ⟨by omega, by omega⟩ ⟨by omega, by omega⟩ (fun c1 => ?_) (fun c1 => absurd c1 (by omega))
      show t_X d 95 93 lv [] g P
      refine t_5 zrw152_93 rfl rfl ?_
      have ek : (k : Int) = a - z + 1 := by omega
      rw [ek] at hS
      exact hO _ _ hS hc.1 (fun i hi h6 => hc.2 i (by omega) h6)
set_option maxHeartbeats 4000000 in
theorem rw152_run {d : Nat} (hd : 2 ≤ d) {g0 g : pH} {B : tC} {n : Int} (hB : tB152 g0 B n) {p m : Int} {c : tC} (hS : tS152 g0 g p m 0 c) (hm : 0 ≤ m ∧ m ≤ 60) {P : Option pv × pH → Prop} (hF : ∀ (g1 : pH) (f q : Int), tS152 g0 g1 q m f c → f < 0 → -9999 ≤ f → tRo (tH B n) p m c (.inl f) → P (none, g1)) (hO : ∀ (g1 : pH) (q w : Int) (c1 : tC), tS152 g0 g1 q (m + w) 0 c1 → p < q ∧ q ≤ n → 1 ≤ w ∧ w ≤ 32 → (m + w ≤ 60 → tRo (tH B n) p m c (.inr (q, m + w, c1))) → (60 < m + w → tRo (tH B n) p m c (.inl (-6000 - p))) → P (none, g1)) {lv : List (Nat × pv)} (l0 : px_lg lv 0 = some (pvR 152)) : t_X d 95 0 lv [] g P := by
  obtain ⟨hn0, hn1, hp1, hm1, hH⟩ := cm152 hB hS
  refine t_0 zrw152_0 rfl (ld_a l0) ?_
  refine t_3 zrw152_1 rfl (ar := ([pvR 152], [])) (pcal_w (as := []) rfl rfl rfl eo_152) ⟨by omega, Nat.le_of_ble_eq_true rfl, Nat.le_of_ble_eq_true rfl, rfl⟩ ?_
  refine nu152_run (by omega) hB hS (fun g1 f1 q1 v1 hS1 t1 => ?_) (fun g1 v1 q1 hS1 t1 => ?_) rfl
  · replace hS1 : tS152 g0 g1 q1 m f1 c := hS1
    have u1 : f1 < 0 ∧ -9999 ≤ f1 := by unfold tNf tDg at t1; omega
    show t_X d 95 4 lv [oI (v1)] g1 P
    refine t_2 zrw152_4 rfl (w := (px_s1 lv 1 (oI (v1)), [])) rfl ?_
    replace l0 : px_lg (px_s1 lv 1 (oI (v1))) 0 = some (pvR 152) := s1_ne (by decide) (fun _ => rfl) l0
    have l1 : px_lg (px_s1 lv 1 (oI (v1))) 1 = some (oI (v1)) := s1_eq
    generalize px_s1 lv 1 (oI (v1)) = lv2 at l0 l1 ⊢
    show t_X d 95 5 lv2 [] g1 P
    refine t_0 zrw152_5 rfl (ld_i l1) ?_
    refine t_2 zrw152_6 rfl (w := (px_s1 lv2 2 (oI (v1)), [])) rfl ?_
    replace l0 : px_lg (px_s1 lv2 2 (oI (v1))) 0 = some (pvR 152) := s1_ne (by decide) (fun _ => rfl) l0
    replace l1 : px_lg (px_s1 lv2 2 (oI (v1))) 1 = some (oI (v1)) := s1_ne (by decide) (fun _ => rfl) l1
    have l2 : px_lg (px_s1 lv2 2 (oI (v1))) 2 = some (oI (v1)) := s1_eq
    generalize px_s1 lv2 2 (oI (v1)) = lv3 at l0 l1 l2 ⊢
    show t_X d 95 7 lv3 [] g1 P
    refine t_0 zrw152_7 rfl (ld_a l0) ?_
    refine t_0 zrw152_8 rfl (pq_cv eo_152 rfl (show cF g1 152 5 = f1 from S_f hS1 2 (Nat.le_of_ble_eq_true rfl))) ?_
    show t_X d 95 11 lv3 [oI (f1)] g1 P
    refine tz_ne zrw152_11 (by decide) ⟨by omega, by omega⟩ (fun c4 => ?_) (fun c4 => absurd c4 (by omega))
    show t_X d 95 38 lv3 [] g1 P
    refine t_0 zrw152_38 rfl (ld_a l0) ?_
    refine t_0 zrw152_39 rfl (pq_cv eo_152 rfl (show cF g1 152 5 = f1 from S_f hS1 2 (Nat.le_of_ble_eq_true rfl))) ?_
    show t_X d 95 42 lv3 [oI (f1)] g1 P
    refine tz_eq zrw152_42 (by decide) ⟨by omega, by omega⟩ (fun c5 => absurd c5 (by omega)) (fun c5 => ?_)
    show t_X d 95 45 lv3 [] g1 P
    refine t_5 zrw152_45 rfl rfl ?_
    exact hF _ _ _ hS1 (by omega) (by omega) (Or.inl ⟨_, t1, rfl⟩)
  · replace hS1 : tS152 g0 g1 q1 m 0 c := hS1
    have u1 := tNu_b t1
    have w1 := (cm152 hB hS1).2.2.1
    have x1 := tNu_n t1
    show t_X d 95 4 lv [oI (v1)] g1 P
    refine t_2 zrw152_4 rfl (w := (px_s1 lv 1 (oI (v1)), [])) rfl ?_
    replace l0 : px_lg (px_s1 lv 1 (oI (v1))) 0 = some (pvR 152) := s1_ne (by decide) (fun _ => rfl) l0
    have l1 : px_lg (px_s1 lv 1 (oI (v1))) 1 = some (oI (v1)) := s1_eq
    generalize px_s1 lv 1 (oI (v1)) = lv6 at l0 l1 ⊢
    show t_X d 95 5 lv6 [] g1 P
    refine t_0 zrw152_5 rfl (ld_i l1) ?_
    refine t_2 zrw152_6 rfl (w := (px_s1 lv6 2 (oI (v1)), [])) rfl ?_
    replace l0 : px_lg (px_s1 lv6 2 (oI (v1))) 0 = some (pvR 152) := s1_ne (by decide) (fun _ => rfl) l0
    replace l1 : px_lg (px_s1 lv6 2 (oI (v1))) 1 = some (oI (v1)) := s1_ne (by decide) (fun _ => rfl) l1
    have l2 : px_lg (px_s1 lv6 2 (oI (v1))) 2 = some (oI (v1)) := s1_eq
    generalize px_s1 lv6 2 (oI (v1)) = lv7 at l0 l1 l2 ⊢
    show t_X d 95 7 lv7 [] g1 P
    refine t_0 zrw152_7 rfl (ld_a l0) ?_
    refine t_0 zrw152_8 rfl (pq_cv eo_152 rfl (show cF g1 152 5 = 0 from S_f hS1 2 (Nat.le_of_ble_eq_true rfl))) ?_
    show t_X d 95 11 lv7 [oI 0] g1 P
    refine tz_ne zrw152_11 (by decide) ⟨by omega, by omega⟩ (fun c8 => absurd c8 (by omega)) (fun c8 => ?_)
    show t_X d 95 14 lv7 [] g1 P
    refine t_0 zrw152_14 rfl (ld_a l0) ?_
    refine t_3 zrw152_15 rfl (ar := ([pvR 152], [])) (pcal_w (as := []) rfl rfl rfl eo_152) ⟨by omega, Nat.le_of_ble_eq_true rfl, Nat.le_of_ble_eq_true rfl, rfl⟩ ?_
    refine sg152_run hB hS1 ?_ rfl
    have b9 := hH q1 (by omega)
    have z9 := tH_n (B := B) (n := n) (p := q1)
    show t_X d 95 18 lv7 [oI (tH B n q1)] g1 P
    refine t_0 zrw152_18 rfl (pq_b (by decide)) ?_
    refine tb_ne zrw152_20 (by decide) ⟨by omega, by omega⟩ ⟨by omega, by omega⟩ (fun c10 => ?_) (fun c10 => ?_)
    · show t_X d 95 38 lv7 [] g1 P
      refine t_0 zrw152_38 rfl (ld_a l0) ?_
      refine t_0 zrw152_39 rfl (pq_cv eo_152 rfl (show cF g1 152 5 = 0 from S_f hS1 2 (Nat.le_of_ble_eq_true rfl))) ?_
      show t_X d 95 42 lv7 [oI 0] g1 P
      refine tz_eq zrw152_42 (by decide) ⟨by omega, by omega⟩ (fun c11 => ?_) (fun c11 => absurd c11 (by omega))
      show t_X d 95 46 lv7 [] g1 P
      refine t_0 zrw152_46 rfl (ld_i l1) ?_
      refine t_0 zrw152_47 rfl (ld_i l2) ?_
      refine tb_gt zrw152_48 (by decide) ⟨by omega, by omega⟩ ⟨by omega, by omega⟩ (fun c12 => absurd c12 (by omega)) (fun c12 => ?_)
      show t_X d 95 51 lv7 [] g1 P
      refine t_0 zrw152_51 rfl rfl ?_
      refine t_1 zrw152_52 rfl (pb_goto (pc := 52) (by decide)) ?_
      show t_X d 95 56 lv7 [oI 1] g1 P
      refine t_2 zrw152_56 rfl (w := (px_s1 lv7 3 (oI 1), [])) rfl ?_
      replace l0 : px_lg (px_s1 lv7 3 (oI 1)) 0 = some (pvR 152) := s1_ne (by decide) (fun _ => rfl) l0
      replace l1 : px_lg (px_s1 lv7 3 (oI 1)) 1 = some (oI (v1)) := s1_ne (by decide) (fun _ => rfl) l1
      replace l2 : px_lg (px_s1 lv7 3 (oI 1)) 2 = some (oI (v1)) := s1_ne (by decide) (fun _ => rfl) l2
      have l3 : px_lg (px_s1 lv7 3 (oI 1)) 3 = some (oI 1) := s1_eq
      generalize px_s1 lv7 3 (oI 1) = lv13 at l0 l1 l2 l3 ⊢
      show t_X d 95 57 lv13 [] g1 P
      refine t_0 zrw152_57 rfl (ld_i l2) ?_
      refine t_0 zrw152_58 rfl (ld_i l1) ?_
      refine t_0 zrw152_59 rfl pq_sub ?_
      refine pq_abp zrw152_60 rfl rfl (by omega) (Nat.le_of_ble_eq_true rfl) ⟨by omega, by omega⟩ ?_
      show t_X d 95 63 lv13 [oI (v1 - v1)] g1 P
      refine t_0 zrw152_63 rfl rfl ?_
      refine t_0 zrw152_64 rfl pq_add ?_
      refine t_2 zrw152_65 rfl (w := (px_s1 lv13 4 (oI ((v1 - v1) + 1)), [])) rfl ?_
      replace l0 : px_lg (px_s1 lv13 4 (oI ((v1 - v1) + 1))) 0 = some (pvR 152) := s1_ne (by decide) (fun _ => rfl) l0
      replace l1 : px_lg (px_s1 lv13 4 (oI ((v1 - v1) + 1))) 1 = some (oI (v1)) := s1_ne (by decide) (fun _ => rfl) l1
      replace l2 : px_lg (px_s1 lv13 4 (oI ((v1 - v1) + 1))) 2 = some (oI (v1)) := s1_ne (by decide) (fun _ => rfl) l2
      replace l3 : px_lg (px_s1 lv13 4 (oI ((v1 - v1) + 1))) 3 = some (oI 1) := s1_ne (by decide) (fun _ => rfl) l3
      have l4 : px_lg (px_s1 lv13 4 (oI ((v1 - v1) + 1))) 4 = some (oI ((v1 - v1) + 1)) := s1_eq
      generalize px_s1 lv13 4 (oI ((v1 - v1) + 1)) = lv14 at l0 l1 l2 l3 l4 ⊢
      show t_X d 95 67 lv14 [] g1 P
      refine t_0 zrw152_67 rfl rfl ?_
      refine t_2 zrw152_68 rfl (w := (px_s1 lv14 5 (oI 0), [])) rfl ?_
      replace l0 : px_lg (px_s1 lv14 5 (oI 0)) 0 = some (pvR 152) := s1_ne (by decide) (fun _ => rfl) l0
      replace l1 : px_lg (px_s1 lv14 5 (oI 0)) 1 = some (oI (v1)) := s1_ne (by decide) (fun _ => rfl) l1
      replace l2 : px_lg (px_s1 lv14 5 (oI 0)) 2 = some (oI (v1)) := s1_ne (by decide) (fun _ => rfl) l2
      replace l3 : px_lg (px_s1 lv14 5 (oI 0)) 3 = some (oI 1) := s1_ne (by decide) (fun _ => rfl) l3
      replace l4 : px_lg (px_s1 lv14 5 (oI 0)) 4 = some (oI ((v1 - v1) + 1)) := s1_ne (by decide) (fun _ => rfl) l4
      have l5 : px_lg (px_s1 lv14 5 (oI 0)) 5 = some (oI 0) := s1_eq
      generalize px_s1 lv14 5 (oI 0) = lv15 at l0 l1 l2 l3 l4 l5 ⊢
      show t_X d 95 70 lv15 [] g1 P
      replace l4 : px_lg lv15 4 = some (oI (v1 - v1 + 1)) := l4.trans (congrArg (fun u => some (oI u)) (by omega))
      refine rl152p (by omega) hB (a := v1) (z := v1) (p := q1) (m := m) ⟨by omega, by omega, by omega, by omega, by omega⟩ hm (c0 := c) (fun g1 c1 h1 h2 h3 => ?_) 40 0 _ _ (by omega) (by omega) (show tS152 g0 g1 q1 (m + ((0 : Nat) : Int)) 0 c by rw [show m + ((0 : Nat) : Int) = m by omega]; exact hS1) ⟨fun j _ => rfl, fun i hi => absurd hi (by omega)⟩ l0 l1 l2 l3 l4 l5
      have ew : tW v1 v1 = v1 - v1 + 1 := by unfold tW; rw [if_pos (by omega)]
      rw [← ew] at h1 h3
      refine hO _ _ _ _ h1 ⟨by omega, by omega⟩ ⟨by omega, by omega⟩ (fun h6 => ?_) (fun h6 => ?_)
      · refine Or.inr ⟨_, _, t1, Or.inl ⟨by omega, Or.inr ⟨h6, _, rfl, h2, fun k hk => ?_⟩⟩⟩
        rw [h3 k hk (by omega), if_pos (by omega)]
      · exact Or.inr ⟨_, _, t1, Or.inl ⟨by omega, Or.inl ⟨h6, rfl⟩⟩⟩
    · show t_X d 95 23 lv7 [] g1 P
      refine t_0 zrw152_23 rfl (ld_a l0) ?_
      refine t_0 zrw152_24 rfl rfl ?_
      refine t_0 zrw152_25 rfl (pq_cv eo_152 rfl (show cF g1 152 4 = q1 from S_f hS1 0 (Nat.le_of_ble_eq_true rfl))) ?_
      show t_X d 95 28 lv7 [oI (q1), pvR 152] g1 P
      refine t_0 zrw152_28 rfl rfl ?_
      refine t_0 zrw152_29 rfl pq_add ?_
      refine ts_f (n := 0) rfl rfl (by decide) zrw152_30 rfl eo_152 hS1 wt_tW152_152_4 gy_152_4 (by decide) ⟨by omega, by omega⟩ (fun g16 hS16 => ?_)
      replace hS16 : tS152 g0 g16 (q1 + 1) m 0 c := hS16
      show t_X d 95 33 lv7 [] g16 P
      refine t_0 zrw152_33 rfl (ld_a l0) ?_
      refine t_3 zrw152_34 rfl (ar := ([pvR 152], [])) (pcal_w (as := []) rfl rfl rfl eo_152) ⟨by omega, Nat.le_of_ble_eq_true rfl, Nat.le_of_ble_eq_true rfl, rfl⟩ ?_
      refine nu152_run (by omega) hB hS16 (fun g17 f17 q17 v17 hS17 t17 => ?_) (fun g17 v17 q17 hS17 t17 => ?_) rfl
      · replace hS17 : tS152 g0 g17 q17 m f17 c := hS17
        have u17 : f17 < 0 ∧ -9999 ≤ f17 := by unfold tNf tDg at t17; omega
        show t_X d 95 37 lv7 [oI (v17)] g17 P
        refine t_2 zrw152_37 rfl (w := (px_s1 lv7 2 (oI (v17)), [])) rfl ?_
        replace l0 : px_lg (px_s1 lv7 2 (oI (v17))) 0 = some (pvR 152) := s1_ne (by decide) (fun _ => rfl) l0
        replace l1 : px_lg (px_s1 lv7 2 (oI (v17))) 1 = some (oI (v1)) := s1_ne (by decide) (fun _ => rfl) l1
        have l2 : px_lg (px_s1 lv7 2 (oI (v17))) 2 = some (oI (v17)) := s1_eq
        generalize px_s1 lv7 2 (oI (v17)) = lv18 at l0 l1 l2 ⊢
        show t_X d 95 38 lv18 [] g17 P
        refine t_0 zrw152_38 rfl (ld_a l0) ?_
        refine t_0 zrw152_39 rfl (pq_cv eo_152 rfl (show cF g17 152 5 = f17 from S_f hS17 2 (Nat.le_of_ble_eq_true rfl))) ?_
        show t_X d 95 42 lv18 [oI (f17)] g17 P
        refine tz_eq zrw152_42 (by decide) ⟨by omega, by omega⟩ (fun c19 => absurd c19 (by omega)) (fun c19 => ?_)
        show t_X d 95 45 lv18 [] g17 P
        refine t_5 zrw152_45 rfl rfl ?_
        exact hF _ _ _ hS17 (by omega) (by omega) (Or.inr ⟨_, _, t1, Or.inr ⟨by omega, Or.inl ⟨_, t17, rfl⟩⟩⟩)
      · replace hS17 : tS152 g0 g17 q17 m 0 c := hS17
        have u17 := tNu_b t17
        have w17 := (cm152 hB hS17).2.2.1
        have x17 := tNu_n t17
        show t_X d 95 37 lv7 [oI (v17)] g17 P
        refine t_2 zrw152_37 rfl (w := (px_s1 lv7 2 (oI (v17)), [])) rfl ?_
        replace l0 : px_lg (px_s1 lv7 2 (oI (v17))) 0 = some (pvR 152) := s1_ne (by decide) (fun _ => rfl) l0
        replace l1 : px_lg (px_s1 lv7 2 (oI (v17))) 1 = some (oI (v1)) := s1_ne (by decide) (fun _ => rfl) l1
        have l2 : px_lg (px_s1 lv7 2 (oI (v17))) 2 = some (oI (v17)) := s1_eq
        generalize px_s1 lv7 2 (oI (v17)) = lv20 at l0 l1 l2 ⊢
        show t_X d 95 38 lv20 [] g17 P
        refine t_0 zrw152_38 rfl (ld_a l0) ?_
        refine t_0 zrw152_39 rfl (pq_cv eo_152 rfl (show cF g17 152 5 = 0 from S_f hS17 2 (Nat.le_of_ble_eq_true rfl))) ?_
        show t_X d 95 42 lv20 [oI 0] g17 P
        refine tz_eq zrw152_42 (by decide) ⟨by omega, by omega⟩ (fun c21 => ?_) (fun c21 => absurd c21 (by omega))
        show t_X d 95 46 lv20 [] g17 P
        refine t_0 zrw152_46 rfl (ld_i l1) ?_
        refine t_0 zrw152_47 rfl (ld_i l2) ?_
        refine tb_gt zrw152_48 (by decide) ⟨by omega, by omega⟩ ⟨by omega, by omega⟩ (fun c22 => ?_) (fun c22 => ?_)
        · show t_X d 95 55 lv20 [] g17 P
          refine t_0 zrw152_55 rfl rfl ?_
          refine t_2 zrw152_56 rfl (w := (px_s1 lv20 3 (oI (-1)), [])) rfl ?_
          replace l0 : px_lg (px_s1 lv20 3 (oI (-1))) 0 = some (pvR 152) := s1_ne (by decide) (fun _ => rfl) l0
          replace l1 : px_lg (px_s1 lv20 3 (oI (-1))) 1 = some (oI (v1)) := s1_ne (by decide) (fun _ => rfl) l1
          replace l2 : px_lg (px_s1 lv20 3 (oI (-1))) 2 = some (oI (v17)) := s1_ne (by decide) (fun _ => rfl) l2
          have l3 : px_lg (px_s1 lv20 3 (oI (-1))) 3 = some (oI (-1)) := s1_eq
          generalize px_s1 lv20 3 (oI (-1)) = lv23 at l0 l1 l2 l3 ⊢
          show t_X d 95 57 lv23 [] g17 P
          refine t_0 zrw152_57 rfl (ld_i l2) ?_
          refine t_0 zrw152_58 rfl (ld_i l1) ?_
          refine t_0 zrw152_59 rfl pq_sub ?_
          refine pq_abn zrw152_60 rfl rfl (by omega) (Nat.le_of_ble_eq_true rfl) ⟨by omega, by omega⟩ ?_
          show t_X d 95 63 lv23 [oI (-(v17 - v1))] g17 P
          refine t_0 zrw152_63 rfl rfl ?_
          refine t_0 zrw152_64 rfl pq_add ?_
          refine t_2 zrw152_65 rfl (w := (px_s1 lv23 4 (oI ((-(v17 - v1)) + 1)), [])) rfl ?_
          replace l0 : px_lg (px_s1 lv23 4 (oI ((-(v17 - v1)) + 1))) 0 = some (pvR 152) := s1_ne (by decide) (fun _ => rfl) l0
          replace l1 : px_lg (px_s1 lv23 4 (oI ((-(v17 - v1)) + 1))) 1 = some (oI (v1)) := s1_ne (by decide) (fun _ => rfl) l1
          replace l2 : px_lg (px_s1 lv23 4 (oI ((-(v17 - v1)) + 1))) 2 = some (oI (v17)) := s1_ne (by decide) (fun _ => rfl) l2
          replace l3 : px_lg (px_s1 lv23 4 (oI ((-(v17 - v1)) + 1))) 3 = some (oI (-1)) := s1_ne (by decide) (fun _ => rfl) l3
          have l4 : px_lg (px_s1 lv23 4 (oI ((-(v17 - v1)) + 1))) 4 = some (oI ((-(v17 - v1)) + 1)) := s1_eq
          generalize px_s1 lv23 4 (oI ((-(v17 - v1)) + 1)) = lv24 at l0 l1 l2 l3 l4 ⊢
          show t_X d 95 67 lv24 [] g17 P
          refine t_0 zrw152_67 rfl rfl ?_
          refine t_2 zrw152_68 rfl (w := (px_s1 lv24 5 (oI 0), [])) rfl ?_
          replace l0 : px_lg (px_s1 lv24 5 (oI 0)) 0 = some (pvR 152) := s1_ne (by decide) (fun _ => rfl) l0
          replace l1 : px_lg (px_s1 lv24 5 (oI 0)) 1 = some (oI (v1)) := s1_ne (by decide) (fun _ => rfl) l1
          replace l2 : px_lg (px_s1 lv24 5 (oI 0)) 2 = some (oI (v17)) := s1_ne (by decide) (fun _ => rfl) l2
          replace l3 : px_lg (px_s1 lv24 5 (oI 0)) 3 = some (oI (-1)) := s1_ne (by decide) (fun _ => rfl) l3
          replace l4 : px_lg (px_s1 lv24 5 (oI 0)) 4 = some (oI ((-(v17 - v1)) + 1)) := s1_ne (by decide) (fun _ => rfl) l4
          have l5 : px_lg (px_s1 lv24 5 (oI 0)) 5 = some (oI 0) := s1_eq
          generalize px_s1 lv24 5 (oI 0) = lv25 at l0 l1 l2 l3 l4 l5 ⊢
          show t_X d 95 70 lv25 [] g17 P
          replace l4 : px_lg lv25 4 = some (oI (v1 - v17 + 1)) := l4.trans (congrArg (fun u => some (oI u)) (by omega))
          refine rl152m (by omega) hB (a := v1) (z := v17) (p := q17) (m := m) ⟨by omega, by omega, by omega, by omega, by omega⟩ hm (c0 := c) (fun g1 c1 h1 h2 h3 => ?_) 40 0 _ _ (by omega) (by omega) (show tS152 g0 g17 q17 (m + ((0 : Nat) : Int)) 0 c by rw [show m + ((0 : Nat) : Int) = m by omega]; exact hS17) ⟨fun j _ => rfl, fun i hi => absurd hi (by omega)⟩ l0 l1 l2 l3 l4 l5
          have ew : tW v1 v17 = v1 - v17 + 1 := by unfold tW; rw [if_neg (by omega)]
          rw [← ew] at h1 h3
          refine hO _ _ _ _ h1 ⟨by omega, by omega⟩ ⟨by omega, by omega⟩ (fun h6 => ?_) (fun h6 => ?_)
          · refine Or.inr ⟨_, _, t1, Or.inr ⟨by omega, Or.inr ⟨_, _, t17, Or.inr ⟨h6, _, rfl, h2, fun k hk => ?_⟩⟩⟩⟩
            rw [h3 k hk (by omega), if_neg (by omega)]
          · exact Or.inr ⟨_, _, t1, Or.inr ⟨by omega, Or.inr ⟨_, _, t17, Or.inl ⟨h6, rfl⟩⟩⟩⟩
        · show t_X d 95 51 lv20 [] g17 P
          refine t_0 zrw152_51 rfl rfl ?_
          refine t_1 zrw152_52 rfl (pb_goto (pc := 52) (by decide)) ?_
          show t_X d 95 56 lv20 [oI 1] g17 P
          refine t_2 zrw152_56 rfl (w := (px_s1 lv20 3 (oI 1), [])) rfl ?_
          replace l0 : px_lg (px_s1 lv20 3 (oI 1)) 0 = some (pvR 152) := s1_ne (by decide) (fun _ => rfl) l0
          replace l1 : px_lg (px_s1 lv20 3 (oI 1)) 1 = some (oI (v1)) := s1_ne (by decide) (fun _ => rfl) l1
          replace l2 : px_lg (px_s1 lv20 3 (oI 1)) 2 = some (oI (v17)) := s1_ne (by decide) (fun _ => rfl) l2
          have l3 : px_lg (px_s1 lv20 3 (oI 1)) 3 = some (oI 1) := s1_eq
          generalize px_s1 lv20 3 (oI 1) = lv26 at l0 l1 l2 l3 ⊢
          show t_X d 95 57 lv26 [] g17 P
          refine t_0 zrw152_57 rfl (ld_i l2) ?_
          refine t_0 zrw152_58 rfl (ld_i l1) ?_
          refine t_0 zrw152_59 rfl pq_sub ?_
          refine pq_abp zrw152_60 rfl rfl (by omega) (Nat.le_of_ble_eq_true rfl) ⟨by omega, by omega⟩ ?_
          show t_X d 95 63 lv26 [oI (v17 - v1)] g17 P
          refine t_0 zrw152_63 rfl rfl ?_
          refine t_0 zrw152_64 rfl pq_add ?_
          refine t_2 zrw152_65 rfl (w := (px_s1 lv26 4 (oI ((v17 - v1) + 1)), [])) rfl ?_
          replace l0 : px_lg (px_s1 lv26 4 (oI ((v17 - v1) + 1))) 0 = some (pvR 152) := s1_ne (by decide) (fun _ => rfl) l0
          replace l1 : px_lg (px_s1 lv26 4 (oI ((v17 - v1) + 1))) 1 = some (oI (v1)) := s1_ne (by decide) (fun _ => rfl) l1
          replace l2 : px_lg (px_s1 lv26 4 (oI ((v17 - v1) + 1))) 2 = some (oI (v17)) := s1_ne (by decide) (fun _ => rfl) l2
          replace l3 : px_lg (px_s1 lv26 4 (oI ((v17 - v1) + 1))) 3 = some (oI 1) := s1_ne (by decide) (fun _ => rfl) l3
          have l4 : px_lg (px_s1 lv26 4 (oI ((v17 - v1) + 1))) 4 = some (oI ((v17 - v1) + 1)) := s1_eq
          generalize px_s1 lv26 4 (oI ((v17 - v1) + 1)) = lv27 at l0 l1 l2 l3 l4 ⊢
          show t_X d 95 67 lv27 [] g17 P
          refine t_0 zrw152_67 rfl rfl ?_
          refine t_2 zrw152_68 rfl (w := (px_s1 lv27 5 (oI 0), [])) rfl ?_
          replace l0 : px_lg (px_s1 lv27 5 (oI 0)) 0 = some (pvR 152) := s1_ne (by decide) (fun _ => rfl) l0
          replace l1 : px_lg (px_s1 lv27 5 (oI 0)) 1 = some (oI (v1)) := s1_ne (by decide) (fun _ => rfl) l1
          replace l2 : px_lg (px_s1 lv27 5 (oI 0)) 2 = some (oI (v17)) := s1_ne (by decide) (fun _ => rfl) l2
          replace l3 : px_lg (px_s1 lv27 5 (oI 0)) 3 = some (oI 1) := s1_ne (by decide) (fun _ => rfl) l3
          replace l4 : px_lg (px_s1 lv27 5 (oI 0)) 4 = some (oI ((v17 - v1) + 1)) := s1_ne (by decide) (fun _ => rfl) l4
          have l5 : px_lg (px_s1 lv27 5 (oI 0)) 5 = some (oI 0) := s1_eq
          generalize px_s1 lv27 5 (oI 0) = lv28 at l0 l1 l2 l3 l4 l5 ⊢
          show t_X d 95 70 lv28 [] g17 P
          replace l4 : px_lg lv28 4 = some (oI (v17 - v1 + 1)) := l4.trans (congrArg (fun u => some (oI u)) (by omega))
          refine rl152p (by omega) hB (a := v1) (z := v17) (p := q17) (m := m) ⟨by omega, by omega, by omega, by omega, by omega⟩ hm (c0 := c) (fun g1 c1 h1 h2 h3 => ?_) 40 0 _ _ (by omega) (by omega) (show tS152 g0 g17 q17 (m + ((0 : Nat) : Int)) 0 c by rw [show m + ((0 : Nat) : Int) = m by omega]; exact hS17) ⟨fun j _ => rfl, fun i hi => absurd hi (by omega)⟩ l0 l1 l2 l3 l4 l5
          have ew : tW v1 v17 = v17 - v1 + 1 := by unfold tW; rw [if_pos (by omega)]
          rw [← ew] at h1 h3
          refine hO _ _ _ _ h1 ⟨by omega, by omega⟩ ⟨by omega, by omega⟩ (fun h6 => ?_) (fun h6 => ?_)
          · refine Or.inr ⟨_, _, t1, Or.inr ⟨by omega, Or.inr ⟨_, _, t17, Or.inr ⟨h6, _, rfl, h2, fun k hk => ?_⟩⟩⟩⟩
            rw [h3 k hk (by omega), if_pos (by omega)]
          · exact Or.inr ⟨_, _, t1, Or.inr ⟨by omega, Or.inr ⟨_, _, t17, Or.inl ⟨h6, rfl⟩⟩⟩⟩
end
