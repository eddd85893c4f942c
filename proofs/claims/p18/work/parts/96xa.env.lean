/-! the tie: states by what their cells hold -/
def sE (ks : List (Nat × Nat)) (as : List Nat) (W : Nat) (g0 g : pH) (vs : List Int) (cs : List (Nat → Int)) : Prop := J_ W g0 g ∧ (∀ i, i < ks.length → cF g (ks.getD i (0, 0)).1 (ks.getD i (0, 0)).2 = vs.getD i 0) ∧ ∀ i, i < as.length → fA g (as.getD i 0) = cs.getD i (fun _ => 0)
def sEf (ks : List (Nat × Nat)) (k y n : Nat) : Bool := (List.range ks.length).all (fun j => j == n || !((ks.getD j (0, 0)).1 == k && (ks.getD j (0, 0)).2 == y))
def sEa (as : List Nat) (k n : Nat) : Bool := (List.range as.length).all (fun j => j == n || !(as.getD j 0 == k))
theorem ls_set {α : Type} {l : List α} {n i : Nat} {a b : α} (hn : n < l.length) : (l.set n a).getD i b = if i = n then a else l.getD i b := by
  rw [List.getD_eq_getElem?_getD, List.getD_eq_getElem?_getD, List.getElem?_set]
  by_cases q : n = i
  · subst q
    rw [if_pos rfl, if_pos hn, if_pos rfl]
    rfl
  · rw [if_neg q, if_neg (fun z => q z.symm)]
section SE
variable {ks : List (Nat × Nat)} {as : List Nat} {W : Nat} {g0 g g1 : pH} {vs : List Int} {cs : List (Nat → Int)}
theorem S_J (h : sE ks as W g0 g vs cs) : J_ W g0 g := h.1
theorem S_f (h : sE ks as W g0 g vs cs) (i : Nat) (hi : i < ks.length) : cF g (ks.getD i (0, 0)).1 (ks.getD i (0, 0)).2 = vs.getD i 0 := h.2.1 i hi
theorem S_a (h : sE ks as W g0 g vs cs) (i : Nat) (hi : i < as.length) : fA g (as.getD i 0) = cs.getD i (fun _ => 0) := h.2.2 i hi
theorem sEf_o {k y n : Nat} (hd : sEf ks k y n = true) {j : Nat} (hj : j < ks.length) (hn : j ≠ n) : ¬ ((ks.getD j (0, 0)).1 = k ∧ (ks.getD j (0, 0)).2 = y) := fun z => by
  have h := List.all_eq_true.mp hd j (List.mem_range.mpr hj)
  rw [z.1, z.2, beq_self_eq_true, beq_self_eq_true, beq_false_of_ne hn] at h
  cases h
theorem sEa_o {k n : Nat} (hd : sEa as k n = true) {j : Nat} (hj : j < as.length) (hn : j ≠ n) : as.getD j 0 ≠ k := fun z => by
  have h := List.all_eq_true.mp hd j (List.mem_range.mpr hj)
  rw [z, beq_self_eq_true, beq_false_of_ne hn] at h
  cases h
theorem S_wf {k y n : Nat} {e : Int} (h : sE ks as W g0 g vs cs) (hn : n < vs.length) (hk : ks.getD n (0, 0) = (k, y)) (hd : sEf ks k y n = true) (hJ : J_ W g0 g1) (he : g1 = (pu g.1 k y (Int32.ofInt e), g.2)) (h0 : -2147483648 ≤ e) (h1 : e ≤ 2147483647) : sE ks as W g0 g1 (vs.set n e) cs := by
  subst he
  refine ⟨hJ, fun i hi => ?_, fun i hi => h.2.2 i hi⟩
  rw [ls_set hn]
  by_cases q : i = n
  · subst q
    rw [if_pos rfl, hk]
    exact pc_at h0 h1
  · rw [if_neg q, pc_ne (sEf_o hd hi q)]
    exact h.2.1 i hi
theorem S_wf0 {k y : Nat} {v : Int32} (h : sE ks as W g0 g vs cs) (hd : sEf ks k y ks.length = true) (hJ : J_ W g0 g1) (he : g1 = (pu g.1 k y v, g.2)) : sE ks as W g0 g1 vs cs := by
  subst he
  refine ⟨hJ, fun i hi => ?_, fun i hi => h.2.2 i hi⟩
  rw [pc_ne (sEf_o hd hi (by omega))]
  exact h.2.1 i hi
theorem fA_px {f : pH} {K B j : Nat} {v : Int32} (h : B ≠ K) : fA (f.1, f.2.1, f.2.2.1, pu f.2.2.2.1 K j v, f.2.2.2.2) B = fA f B := by
  funext u
  show (pu f.2.2.2.1 K j v B u).toInt = _
  unfold pu
  rw [if_neg (fun z => h z.1)]
  rfl
theorem S_wa {K n j : Nat} {e : Int} (h : sE ks as W g0 g vs cs) (hn : n < cs.length) (hk : as.getD n 0 = K) (hd : sEa as K n = true) (hJ : J_ W g0 g1) (he : g1 = (g.1, g.2.1, g.2.2.1, pu g.2.2.2.1 K j (Int32.ofInt e), g.2.2.2.2)) (h0 : -2147483648 ≤ e) (h1 : e ≤ 2147483647) : sE ks as W g0 g1 vs (cs.set n (updI (cs.getD n (fun _ => 0)) j e)) := by
  subst he
  refine ⟨hJ, fun i hi => h.2.1 i hi, fun i hi => ?_⟩
  rw [ls_set hn]
  by_cases q : i = n
  · subst q
    rw [if_pos rfl, ← h.2.2 i hi, hk, fA_pu, oT h0 h1]
  · rw [if_neg q, fA_px (sEa_o hd hi q)]
    exact h.2.2 i hi
theorem S_wa0 {K j : Nat} {v : Int32} (h : sE ks as W g0 g vs cs) (hd : sEa as K as.length = true) (hJ : J_ W g0 g1) (he : g1 = (g.1, g.2.1, g.2.2.1, pu g.2.2.2.1 K j v, g.2.2.2.2)) : sE ks as W g0 g1 vs cs := by
  subst he
  refine ⟨hJ, fun i hi => h.2.1 i hi, fun i hi => ?_⟩
  rw [fA_px (sEa_o hd hi (by omega))]
  exact h.2.2 i hi
theorem S_up {V : Nat} (hV : V &&& W = V) {cs2 : List (Nat → Int)} {vs2 : List Int} {ks2 : List (Nat × Nat)} {as2 : List Nat} (hJ : J_ W g0 g) (h : sE ks2 as2 V g g1 vs2 cs2) : sE ks2 as2 W g0 g1 vs2 cs2 := ⟨J_up hV hJ h.1, h.2⟩
end SE
section SR
variable {d μ pc W x y z : Nat} {lv : List (Nat × pv)} {r : List pv} {g0 g h : pH} {P : Option pv × pH → Prop} {ks : List (Nat × Nat)} {as : List Nat} {vs : List Int} {cs : List (Nat → Int)}
theorem pq_cv {i k : Nat} {v : Int} (hk : eL[k]? = some (0, x)) (ht : xk_ty x y = .int) (hv : cF h k y = v) : px_push eL d none (.getfield i) x y lv (pvR k :: r) h = some (oI v :: r) := by
  rw [pq_cf hk ht, hv]
theorem pq_zv {i k : Nat} {v : Int} (hk : eL[k]? = some (0, x)) (ht : xk_ty x y = .boolean) (hv : cF h k y = v) : px_push eL d none (.getfield i) x y lv (pvR k :: r) h = some (oI v :: r) := by
  rw [pq_cz hk ht, hv]
theorem pq_rv {i k m : Nat} {t : FieldType} (hk : eL[k]? = some (0, x)) (ht : xk_ty x y = .array t) (hv : h.2.2.1 k y = some m) : px_push eL d none (.getfield i) x y lv (pvR k :: r) h = some (pvR m :: r) := by
  rw [pget hk (pFa ht), hv]
theorem pFo {k : Nat} {s : String} (ht : xk_ty x y = .object s) : pF h x k y = .inr (.inr (h.2.2.1 k y)) := by
  unfold pF
  rw [ht]
theorem pq_ro {i k m : Nat} {s : String} (hk : eL[k]? = some (0, x)) (ht : xk_ty x y = .object s) (hv : h.2.2.1 k y = some m) : px_push eL d none (.getfield i) x y lv (pvR k :: r) h = some (pvR m :: r) := by
  rw [pget hk (pFo ht), hv]
theorem pq_iv {k n : Nat} {e : Int} {c : Nat → Int} (hk : eL[k]? = some (1, n)) (hn : Nat.ble n 10000 = true) (he : 0 ≤ e ∧ e < n) (hc : fA h k = c) : px_push eL d none .iaload x y lv (oI e :: pvR k :: r) h = some (oI (c e.toNat) :: r) := by
  rw [pq_ia hk hn he, hc]
theorem pb_a {K n j : Nat} {lo hi : Int} {c : Nat → Int} (hG : g_I eG g) (hk : eL[K]? = some (1, n)) (hj : j < n) (hg : eG (cn K) = (lo, hi, [])) (hc : fA g K = c) : lo ≤ c j ∧ c j ≤ hi := by
  have := gb_a hG hk hj hg
  rw [hc] at this
  exact this
theorem pq_ng {a : Int} : px_push eL d none .ineg x y lv (oI a :: r) h = some (oI (-a) :: r) := by
  show some ((.inl (-Int32.ofInt a) : pv) :: r) = some ((.inl (Int32.ofInt (-a)) : pv) :: r)
  rw [Int32.ofInt_neg]
theorem pq_abp {q : xe_I} {a : Int} (hq : xe_look (xc μ) pc = some q) (hk : px_kd q.1 q.2.2.1 = 7) (hx : q.2.2.1 = 8) (hd : 1 ≤ d) (hs : px_sum (oI a :: r) ≤ 8) (ha : 0 ≤ a ∧ a ≤ 2147483647) (ht : t_X d μ (pc + 3) lv (oI a :: r) g P) : t_X d μ pc lv (oI a :: r) g P := by
  refine t_6 hq hk (st2 := oI a :: r) ?_ ht
  rw [hx]
  show (if 1 ≤ d ∧ px_sum (oI a :: r) ≤ 8 then px_u1 xs_ab (oI a :: r) else none) = _
  rw [if_pos ⟨hd, hs⟩]
  show some ((.inl (xs_ab (Int32.ofInt a)) : pv) :: r) = _
  unfold xs_ab
  rw [if_neg (fun z => by rw [z_oI, lt_oI (by omega) (by omega)] at z; omega)]
theorem pq_abn {q : xe_I} {a : Int} (hq : xe_look (xc μ) pc = some q) (hk : px_kd q.1 q.2.2.1 = 7) (hx : q.2.2.1 = 8) (hd : 1 ≤ d) (hs : px_sum (oI a :: r) ≤ 8) (ha : -2147483647 ≤ a ∧ a < 0) (ht : t_X d μ (pc + 3) lv (oI (-a) :: r) g P) : t_X d μ pc lv (oI a :: r) g P := by
  refine t_6 hq hk (st2 := oI (-a) :: r) ?_ ht
  rw [hx]
  show (if 1 ≤ d ∧ px_sum (oI a :: r) ≤ 8 then px_u1 xs_ab (oI a :: r) else none) = _
  rw [if_pos ⟨hd, hs⟩]
  show some ((.inl (xs_ab (Int32.ofInt a)) : pv) :: r) = _
  unfold xs_ab
  rw [if_pos (by rw [z_oI, lt_oI (by omega) (by omega)]; omega), ← Int32.ofInt_neg]
theorem pq_mi {a b : Int} (hd : 1 ≤ d) (hs : px_sum (oI b :: oI a :: r) ≤ 8) (ha : -2147483648 ≤ a ∧ a ≤ 2147483647) (hb : -2147483648 ≤ b ∧ b ≤ 2147483647) {i : Nat} : px_push eL d none (.invokestatic i) 3 y lv (oI b :: oI a :: r) h = some (oI (if b < a then b else a) :: r) := by
  show (if 1 ≤ d ∧ px_sum (oI b :: oI a :: r) ≤ 8 then px_u2 xe_min (oI b :: oI a :: r) else none) = _
  rw [if_pos ⟨hd, hs⟩]
  show some ((.inl (xe_min (Int32.ofInt a) (Int32.ofInt b)) : pv) :: r) = _
  unfold xe_min
  by_cases q : b < a
  · rw [if_pos q, if_pos ((lt_oI hb ha).mpr q)]
  · rw [if_neg q, if_neg (fun z => q ((lt_oI hb ha).mp z))]
theorem ts_f {n i k : Nat} {e lo hi : Int} (hn : Nat.blt n vs.length = true) (hkn : ks.getD n (0, 0) = (k, y)) (hd : sEf ks k y n = true) (hq : xe_look (xc μ) pc = some (.putfield i, 3, x, y, z)) (ht : xk_ty x y = .int) (hk : eL[k]? = some (0, x)) (hS : sE ks as W g0 g vs cs) (hW : W.testBit (cn k + y) = true) (hg : eG (cn k + y) = (lo, hi, [])) (hr : -2147483648 ≤ lo ∧ hi ≤ 2147483647) (he : lo ≤ e ∧ e ≤ hi) (hP : ∀ g1 : pH, sE ks as W g0 g1 (vs.set n e) cs → t_X d μ (pc + 3) lv r g1 P) : t_X d μ pc lv (oI e :: pvR k :: r) g P :=
  tw_c hq hk ht (S_J hS) hW hg hr he (fun g1 hJ e1 => hP g1 (S_wf hS (Nat.le_of_ble_eq_true hn) hkn hd hJ e1 (by omega) (by omega)))
theorem ts_fe {n i k : Nat} {e lo hi : Int} (hn : Nat.blt n vs.length = true) (hkn : ks.getD n (0, 0) = (k, y)) (hd : sEf ks k y n = true) (hq : xe_look (xc μ) pc = some (.putfield i, 3, x, y, z)) (ht : xk_ty x y = .int) (hk : eL[k]? = some (0, x)) (hS : sE ks as W g0 g vs cs) (hW : W.testBit (cn k + y) = true) (hg : eG (cn k + y) = (lo, hi, [])) (hr : -2147483648 ≤ lo ∧ hi ≤ 2147483647) (he : lo ≤ e ∧ e ≤ hi) (hP : ∀ g1 : pH, sE ks as W g0 g1 (vs.set n e) cs → g1.2 = g.2 → t_X d μ (pc + 3) lv r g1 P) : t_X d μ pc lv (oI e :: pvR k :: r) g P :=
  tw_c hq hk ht (S_J hS) hW hg hr he (fun g1 hJ e1 => hP g1 (S_wf hS (Nat.le_of_ble_eq_true hn) hkn hd hJ e1 (by omega) (by omega)) (by rw [e1]))
theorem ts_f0 {i k : Nat} {e lo hi : Int} (hd : sEf ks k y ks.length = true) (hq : xe_look (xc μ) pc = some (.putfield i, 3, x, y, z)) (ht : xk_ty x y = .int) (hk : eL[k]? = some (0, x)) (hS : sE ks as W g0 g vs cs) (hW : W.testBit (cn k + y) = true) (hg : eG (cn k + y) = (lo, hi, [])) (hr : -2147483648 ≤ lo ∧ hi ≤ 2147483647) (he : lo ≤ e ∧ e ≤ hi) (hP : ∀ g1 : pH, sE ks as W g0 g1 vs cs → t_X d μ (pc + 3) lv r g1 P) : t_X d μ pc lv (oI e :: pvR k :: r) g P :=
  tw_c hq hk ht (S_J hS) hW hg hr he (fun g1 hJ e1 => hP g1 (S_wf0 hS hd hJ e1))
theorem ts_z {n i k : Nat} {e lo hi : Int} (hn : Nat.blt n vs.length = true) (hkn : ks.getD n (0, 0) = (k, y)) (hd : sEf ks k y n = true) (hq : xe_look (xc μ) pc = some (.putfield i, 3, x, y, z)) (ht : xk_ty x y = .boolean) (hk : eL[k]? = some (0, x)) (hS : sE ks as W g0 g vs cs) (hW : W.testBit (cn k + y) = true) (hg : eG (cn k + y) = (lo, hi, [])) (hr : -2147483648 ≤ lo ∧ hi ≤ 2147483647) (he : lo ≤ e ∧ e ≤ hi) (hb : e = 0 ∨ e = 1) (hP : ∀ g1 : pH, sE ks as W g0 g1 (vs.set n e) cs → t_X d μ (pc + 3) lv r g1 P) : t_X d μ pc lv (oI e :: pvR k :: r) g P :=
  tw_z hq hk ht (S_J hS) hW hg hr he hb (fun g1 hJ e1 => hP g1 (S_wf hS (Nat.le_of_ble_eq_true hn) hkn hd hJ e1 (by omega) (by omega)))
theorem ts_a {n K m : Nat} {e j lo hi : Int} (hn : Nat.blt n cs.length = true) (hkn : as.getD n 0 = K) (hd : sEa as K n = true) (hq : xe_look (xc μ) pc = some (.iastore, 1, x, y, z)) (hS : sE ks as W g0 g vs cs) (hk : eL[K]? = some (1, m)) (hm : Nat.ble m 10000 = true) (hW : W.testBit (cn K) = true) (hg : eG (cn K) = (lo, hi, [])) (hr : -2147483648 ≤ lo ∧ hi ≤ 2147483647) (hj : 0 ≤ j ∧ j < m) (he : lo ≤ e ∧ e ≤ hi) (hP : ∀ g1 : pH, sE ks as W g0 g1 vs (cs.set n (updI (cs.getD n (fun _ => 0)) j.toNat e)) → t_X d μ (pc + 1) lv r g1 P) : t_X d μ pc lv (oI e :: oI j :: pvR K :: r) g P :=
  tw_i hq (S_J hS) hk hm hW hg hj (by rw [oT (by omega) (by omega)]; exact he) (fun g1 hJ e1 => hP g1 (S_wa hS (Nat.le_of_ble_eq_true hn) hkn hd hJ e1 (by omega) (by omega)))
theorem ts_a0 {K m : Nat} {e j lo hi : Int} (hd : sEa as K as.length = true) (hq : xe_look (xc μ) pc = some (.iastore, 1, x, y, z)) (hS : sE ks as W g0 g vs cs) (hk : eL[K]? = some (1, m)) (hm : Nat.ble m 10000 = true) (hW : W.testBit (cn K) = true) (hg : eG (cn K) = (lo, hi, [])) (hr : -2147483648 ≤ lo ∧ hi ≤ 2147483647) (hj : 0 ≤ j ∧ j < m) (he : lo ≤ e ∧ e ≤ hi) (hP : ∀ g1 : pH, sE ks as W g0 g1 vs cs → t_X d μ (pc + 1) lv r g1 P) : t_X d μ pc lv (oI e :: oI j :: pvR K :: r) g P :=
  tw_i hq (S_J hS) hk hm hW hg hj (by rw [oT (by omega) (by omega)]; exact he) (fun g1 hJ e1 => hP g1 (S_wa0 hS hd hJ e1))
theorem pc_ra {i k m : Nat} {t : FieldType} (hk : eL[k]? = some (0, x)) (ht : xk_ty x y = .array t) : px_wf (.putfield i) eL d x y (pvR m :: pvR k :: r) h = some (r, (h.1, h.2.1, pu h.2.2.1 k y (some m), h.2.2.2)) := by
  show px_put eL h x y (.inr (.inr (some m)) :: .inr (.inr (some k)) :: r) = _
  unfold px_put
  dsimp only
  rw [if_pos hk, ht]
theorem pc_rb {i k m : Nat} {s : String} (hk : eL[k]? = some (0, x)) (ht : xk_ty x y = .object s) : px_wf (.putfield i) eL d x y (pvR m :: pvR k :: r) h = some (r, (h.1, h.2.1, pu h.2.2.1 k y (some m), h.2.2.2)) := by
  show px_put eL h x y (.inr (.inr (some m)) :: .inr (.inr (some k)) :: r) = _
  unfold px_put
  dsimp only
  rw [if_pos hk, ht]
theorem J_re {k m : Nat} (hj : J_ W g0 g) (hk : eL[k]? = some (0, x)) (ht : ∀ q : pH, pF q x k y = .inr (.inr (q.2.2.1 k y))) (hW : W.testBit (cn k + y) = true) (hv : ok_v ((m : Int) + 1) (eG (cn k + y))) : J_ W g0 (g.1, g.2.1, pu g.2.2.1 k y (some m), g.2.2.2) := by
  have hw : w_f g (g.1, g.2.1, pu g.2.2.1 k y (some m), g.2.2.2) k y := ⟨fun k' y' hn => ⟨rfl, rfl, if_neg hn⟩, rfl⟩
  refine ⟨g_I_f hj.1 hw hk ?_, w_f_M hw hj.2 hW⟩
  rw [ht]
  show ok_v (cv (.inr (.inr (pu g.2.2.1 k y (some m) k y)))) _
  rw [show pu g.2.2.1 k y (some m) k y = some m from if_pos ⟨rfl, rfl⟩]
  exact hv
theorem S_re {k y m : Nat} (hS : sE ks as W g0 g vs cs) (hJ : J_ W g0 (g.1, g.2.1, pu g.2.2.1 k y (some m), g.2.2.2)) : sE ks as W g0 (g.1, g.2.1, pu g.2.2.1 k y (some m), g.2.2.2) vs cs := ⟨hJ, hS.2.1, hS.2.2⟩
theorem ts_ra {i k m : Nat} {t : FieldType} (hq : xe_look (xc μ) pc = some (.putfield i, 3, x, y, z)) (ht : xk_ty x y = .array t) (hk : eL[k]? = some (0, x)) (hS : sE ks as W g0 g vs cs) (hW : W.testBit (cn k + y) = true) (hv : ok_v ((m : Int) + 1) (eG (cn k + y))) (hP : ∀ g1 : pH, sE ks as W g0 g1 vs cs → g1 = (g.1, g.2.1, pu g.2.2.1 k y (some m), g.2.2.2) → t_X d μ (pc + 3) lv r g1 P) : t_X d μ pc lv (pvR m :: pvR k :: r) g P :=
  t_4 hq rfl (pc_ra hk ht) (hP _ (S_re hS (J_re (S_J hS) hk (fun q => pFa ht) hW hv)) rfl)
theorem ts_rb {i k m : Nat} {s : String} (hq : xe_look (xc μ) pc = some (.putfield i, 3, x, y, z)) (ht : xk_ty x y = .object s) (hk : eL[k]? = some (0, x)) (hS : sE ks as W g0 g vs cs) (hW : W.testBit (cn k + y) = true) (hv : ok_v ((m : Int) + 1) (eG (cn k + y))) (hP : ∀ g1 : pH, sE ks as W g0 g1 vs cs → g1 = (g.1, g.2.1, pu g.2.2.1 k y (some m), g.2.2.2) → t_X d μ (pc + 3) lv r g1 P) : t_X d μ pc lv (pvR m :: pvR k :: r) g P :=
  t_4 hq rfl (pc_rb hk ht) (hP _ (S_re hS (J_re (S_J hS) hk (fun q => pFo ht) hW hv)) rfl)
end SR
theorem S_0 {ks : List (Nat × Nat)} {as : List Nat} {W : Nat} {g : pH} (hG : g_I eG g) : sE ks as W g g (ks.map (fun t => cF g t.1 t.2)) (as.map (fun k => fA g k)) := by
  refine ⟨J_rf hG, fun i hi => ?_, fun i hi => ?_⟩
  · rw [List.getD_eq_getElem?_getD, List.getD_eq_getElem?_getD, List.getElem?_map, List.getElem?_eq_getElem hi]
    rfl
  · rw [List.getD_eq_getElem?_getD, List.getD_eq_getElem?_getD, List.getElem?_map, List.getElem?_eq_getElem hi]
    rfl
theorem pu_rr {α : Type} {f : Nat → Nat → α} {k y : Nat} {v : α} : pu f k y v k y = v := if_pos ⟨rfl, rfl⟩
theorem pu_rn {α : Type} {f : Nat → Nat → α} {k y a b : Nat} {v : α} (h : ¬ (a = k ∧ b = y)) : pu f k y v a b = f a b := if_neg h
theorem pq_ln {d x y k m n : Nat} {lv : List (Nat × pv)} {r : List pv} {g : pH} (hk : eL[k]? = some (m, n)) (hm : (Nat.ble 1 m && Nat.ble m 4 && !(k == 1000)) = true) : px_push eL d none .arraylength x y lv (pvR k :: r) g = some (oI (n : Int) :: r) := by
  rw [Bool.and_eq_true, Bool.and_eq_true] at hm
  have h1 := Nat.le_of_ble_eq_true hm.1.1
  have h2 := Nat.le_of_ble_eq_true hm.1.2
  have h3 : k ≠ 1000 := fun z => by rw [z] at hm; exact absurd hm.2 (by decide)
  show px_alen eL none (.inr (.inr (some k)) :: r) = _
  unfold px_alen
  dsimp only
  rw [if_neg h3, hk]
  dsimp only
  rw [if_pos ⟨h1, h2⟩]
  rfl
