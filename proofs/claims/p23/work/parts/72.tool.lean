/-! by hand: tools for paths by lookups, bits, what stays true of the heap -/
theorem bt_and {j : Nat} (h : j < 32) : nI j &&& 31 = nI j := by
  have : ∀ j, j < 32 → nI j &&& 31 = nI j := by decide +kernel
  exact this j h
theorem bt_mod {j : Nat} (h : j < 32) : ((nI j).toBitVec.smod 32).toNat = j := by
  have : ∀ j, j < 32 → ((nI j).toBitVec.smod 32).toNat = j := by decide +kernel
  exact this j h
theorem bt_has {b : Int32} {j : Nat} (h : j < 32) : ((b >>> (nI j &&& 31)) &&& Int32.ofInt 1 = Int32.ofInt 1) ↔ b.toBitVec.getLsbD j = true := by
  rw [bt_and h, ← Int32.toBitVec_inj, Int32.toBitVec_and, Int32.toBitVec_shiftRight]
  have e1 : (Int32.ofInt 1).toBitVec = 1#32 := by decide
  rw [e1, BitVec.and_one_eq_setWidth_ofBool_getLsbD, BitVec.sshiftRight', BitVec.getLsbD_sshiftRight]
  have e2 := bt_mod h
  have e3 : ((nI j).toBitVec.smod (BitVec.ofNat 32 32)).toNat = j := e2
  rw [e2, Nat.add_zero, if_pos h, show (!decide (32 ≤ 0)) = true from rfl, Bool.true_and]
  cases b.toBitVec.getLsbD j <;> decide
theorem bt_set {b : Int32} {v j : Nat} (hv : v < 32) (hj : j < 32) : (b ||| (Int32.ofInt 1 <<< (nI v &&& 31))).toBitVec.getLsbD j = (b.toBitVec.getLsbD j || decide (j = v)) := by
  rw [bt_and hv, Int32.toBitVec_or, Int32.toBitVec_shiftLeft, BitVec.getLsbD_or]
  have e1 : (Int32.ofInt 1).toBitVec <<< (nI v).toBitVec.smod 32 = 1#32 <<< v := by
    have e2 := bt_mod hv
    show (1#32) <<< ((nI v).toBitVec.smod 32).toNat = _
    rw [e2]
  rw [e1, BitVec.getLsbD_shiftLeft, BitVec.getLsbD_one]
  congr 1
  by_cases q : j = v
  · subst q; simp [hj]
  · simp [q, hj]; omega
def cnt (f : Nat → Bool) : Nat → Nat
  | 0 => 0
  | n + 1 => cnt f n + (if f n then 1 else 0)
theorem cnt_le {f : Nat → Bool} {n m : Nat} (h : n ≤ m) : cnt f n ≤ cnt f m := by
  induction m with
  | zero => rw [show n = 0 by omega]; exact Nat.le_refl _
  | succ m ih =>
    by_cases e : n = m + 1
    · rw [e]; exact Nat.le_refl _
    · have := ih (by omega)
      show _ ≤ cnt f m + _
      omega
theorem cnt_set {f g : Nat → Bool} {v : Nat} : ∀ {n : Nat}, (∀ j, j < n → g j = (f j || decide (j = v))) → cnt g n ≤ cnt f n + (if v < n then 1 else 0)
  | 0, _ => Nat.zero_le _
  | n + 1, h => by
    have ih := cnt_set (n := n) (fun j hj => h j (by omega))
    have e := h n (by omega)
    show cnt g n + (if g n then 1 else 0) ≤ cnt f n + (if f n then 1 else 0) + _
    rw [e]
    by_cases q : n = v
    · subst q
      rw [if_neg (Nat.lt_irrefl _)] at ih
      rw [if_pos (Nat.lt_succ_self _)]
      cases f n <;> simp <;> omega
    · have q2 : decide (n = v) = false := decide_eq_false q
      rw [q2, Bool.or_false]
      by_cases w : v < n
      · rw [if_pos w] at ih; rw [if_pos (show v < n + 1 by omega)]; omega
      · rw [if_neg w] at ih; rw [if_neg (show ¬ v < n + 1 by omega)]; omega
theorem cnt_z {f : Nat → Bool} : ∀ {n : Nat}, (∀ j, j < n → f j = false) → cnt f n = 0
  | 0, _ => rfl
  | n + 1, h => by
    show cnt f n + (if f n then 1 else 0) = 0
    rw [cnt_z (n := n) (fun j hj => h j (by omega)), h n (by omega)]
    rfl
theorem lg_filter {p : Nat × pv → Bool} {j : Nat} {v : pv} : ∀ {l : List (Nat × pv)}, px_lg l j = some v → p (j, v) = true → px_lg (l.filter p) j = some v
  | [], h, _ => by cases h
  | (i, c) :: l, h, hp => by
    have h : (if (i == j) = true then some c else px_lg l j) = some v := h
    by_cases e : i = j
    · subst e
      rw [if_pos (beq_self_eq_true i)] at h
      cases h
      rw [List.filter_cons_of_pos hp]
      show (if (i == i) = true then _ else _) = _
      rw [if_pos (beq_self_eq_true i)]
    · have e2 : ¬ ((i == j) = true) := fun z => e (eq_of_beq z)
      rw [if_neg e2] at h
      by_cases q : p (i, c) = true
      · rw [List.filter_cons_of_pos q]
        show (if (i == j) = true then some c else px_lg (l.filter p) j) = _
        rw [if_neg e2]
        exact lg_filter h hp
      · rw [List.filter_cons_of_neg q]
        exact lg_filter h hp
theorem s1_eq {l : List (Nat × pv)} {i : Nat} {a : pv} : px_lg (px_s1 l i a) i = some a := by
  show (if (i == i) = true then some a else _) = _
  rw [if_pos (beq_self_eq_true i)]
theorem s2_eq {l : List (Nat × pv)} {i : Nat} {a : pv} : px_lg (px_s2 l i a) i = some a := by
  show (if (i == i) = true then some a else _) = _
  rw [if_pos (beq_self_eq_true i)]
theorem s1_ne {l : List (Nat × pv)} {i j : Nat} {a v : pv} (hn : j ≠ i) (h2 : j + 1 = i → pc2 v = false) (h : px_lg l j = some v) : px_lg (px_s1 l i a) j = some v := by
  show (if (i == j) = true then some a else px_lg (l.filter _) j) = _
  rw [if_neg (fun z => hn (eq_of_beq z).symm)]
  refine lg_filter h ?_
  show (!(j == i) && !(j + 1 == i && pc2 v)) = true
  rw [show (j == i) = false from beq_false_of_ne hn]
  by_cases e : j + 1 = i
  · rw [h2 e, Bool.and_false]
    rfl
  · rw [show (j + 1 == i) = false from beq_false_of_ne e]
    rfl
theorem s2_ne {l : List (Nat × pv)} {i j : Nat} {a v : pv} (hn : j ≠ i ∧ j ≠ i + 1) (h2 : j + 1 = i → pc2 v = false) (h : px_lg l j = some v) : px_lg (px_s2 l i a) j = some v := by
  show (if (i == j) = true then some a else px_lg (l.filter _) j) = _
  rw [if_neg (fun z => hn.1 (eq_of_beq z).symm)]
  refine lg_filter h ?_
  show (!(j == i) && (!(j == i + 1) && !(j + 1 == i && pc2 v))) = true
  rw [show (j == i) = false from beq_false_of_ne hn.1, show (j == i + 1) = false from beq_false_of_ne hn.2]
  by_cases e : j + 1 = i
  · rw [h2 e, Bool.and_false]
    rfl
  · rw [show (j + 1 == i) = false from beq_false_of_ne e]
    rfl
theorem ld_i {lv : List (Nat × pv)} {i : Nat} {x : Int32} {st : List pv} (h : px_lg lv i = some (.inl x)) : px_ldi lv i st = some (.inl x :: st) := by
  unfold px_ldi
  rw [h]
theorem ld_l {lv : List (Nat × pv)} {i : Nat} {x : Int64} {st : List pv} (h : px_lg lv i = some (.inr (.inl x))) : px_ldl lv i st = some (.inr (.inl x) :: st) := by
  unfold px_ldl
  rw [h]
theorem ld_a {lv : List (Nat × pv)} {i : Nat} {x : Option Nat} {st : List pv} (h : px_lg lv i = some (.inr (.inr x))) : px_lda lv i st = some (.inr (.inr x) :: st) := by
  unfold px_lda
  rw [h]
theorem pinc {lv : List (Nat × pv)} {i L : Nat} {n : Int} {x : Int32} {st : List pv} (h : px_lg lv i = some (.inl x)) (hL : i < L) : px_of (.iinc i n) L lv st = some (px_s1 lv i (.inl (x + Int32.ofInt n)), st) := by
  show (match px_lg lv i with
    | some (.inl x) => if i < L then some (px_s1 lv i (.inl (x + Int32.ofInt n)), st) else none
    | _ => none) = _
  rw [h]
  exact if_pos hL
theorem pFi {h : pH} {x k y : Nat} (ht : xk_ty x y = .int) : pF h x k y = .inl (h.1 k y) := by
  unfold pF
  rw [ht]
theorem pFa {h : pH} {x k y : Nat} {t : FieldType} (ht : xk_ty x y = .array t) : pF h x k y = .inr (.inr (h.2.2.1 k y)) := by
  unfold pF
  rw [ht]
theorem pget {d i x y k : Nat} {lv : List (Nat × pv)} {h : pH} {r : List pv} {v : pv} (hk : eL[k]? = some (0, x)) (hp : pF h x k y = v) : px_push eL d none (.getfield i) x y lv (.inr (.inr (some k)) :: r) h = some (v :: r) := by
  show (if eL[k]? = some (0, x) then some (pF h x k y :: r) else none) = _
  rw [if_pos hk, hp]
theorem pputi {d i x y k : Nat} {h : pH} {r : List pv} {n : Int32} (hk : eL[k]? = some (0, x)) (ht : xk_ty x y = .int) : px_wf (.putfield i) eL d x y (.inl n :: .inr (.inr (some k)) :: r) h = some (r, (pu h.1 k y n, h.2)) := by
  show px_put eL h x y (.inl n :: .inr (.inr (some k)) :: r) = _
  unfold px_put
  dsimp only
  rw [if_pos hk, ht]
theorem pbald {d x y k n : Nat} {lv : List (Nat × pv)} {h : pH} {r : List pv} {j : Int32} (hk : eL[k]? = some (2, n)) (hi : ¬ (j < 0 ∨ n ≤ j.toNatClampNeg)) : px_push eL d none .baload x y lv (.inl j :: .inr (.inr (some k)) :: r) h = some (.inl (h.2.2.2.1 k j.toNatClampNeg) :: r) := by
  show px_bald eL h (.inl j :: .inr (.inr (some k)) :: r) = _
  unfold px_bald
  dsimp only
  rw [hk]
  dsimp only
  rw [if_pos rfl, if_neg hi]
theorem piald {d x y k n : Nat} {lv : List (Nat × pv)} {h : pH} {r : List pv} {j : Int32} (h1 : k ≠ 1000) (hk : eL[k]? = some (1, n)) (hi : ¬ (j < 0 ∨ n ≤ j.toNatClampNeg)) : px_push eL d none .iaload x y lv (.inl j :: .inr (.inr (some k)) :: r) h = some (.inl (h.2.2.2.1 k j.toNatClampNeg) :: r) := by
  show px_iald eL none h (.inl j :: .inr (.inr (some k)) :: r) = _
  unfold px_iald
  dsimp only
  rw [if_neg h1, hk]
  dsimp only
  rw [if_pos rfl, if_neg hi]
theorem piast {d x y k n : Nat} {h : pH} {r : List pv} {v j : Int32} (hk : eL[k]? = some (1, n)) (hi : ¬ (j < 0 ∨ n ≤ j.toNatClampNeg)) : px_wf .iastore eL d x y (.inl v :: .inl j :: .inr (.inr (some k)) :: r) h = some (r, (h.1, h.2.1, h.2.2.1, pu h.2.2.2.1 k j.toNatClampNeg v, h.2.2.2.2)) := by
  show px_iast eL h (.inl v :: .inl j :: .inr (.inr (some k)) :: r) = _
  unfold px_iast
  dsimp only
  rw [hk]
  dsimp only
  rw [if_pos rfl, if_neg hi]
theorem pcal_v1 {i y k : Nat} {a : pv} {r : List pv} (h1 : (xm y).2.2.2.2.2.2.2 = 1) (hn : (xm y).2.2.2.2.2.1 = 1) (hk : eL[k]? = some (0, (xm y).2.2.2.2.2.2.1)) : px_cal eL (.invokevirtual i) 0 y (a :: .inr (.inr (some k)) :: r) = some ([.inr (.inr (some k)), a], r) := by
  unfold px_cal
  dsimp only
  rw [if_pos ⟨rfl, h1, by rw [hn]; exact Nat.le_add_left 1 _⟩, hn]
  show (if eL[k]? = some (0, (xm y).2.2.2.2.2.2.1) then _ else _) = _
  rw [if_pos hk]
  rfl
/-- what stays true of the heap -/
def J_ (W : Nat) (h0 h : pH) : Prop := g_I eG h ∧ f_M W h0 h
theorem J_puti {W : Nat} {h0 h : pH} {k x y : Nat} {n : Int32} (hj : J_ W h0 h) (hk : eL[k]? = some (0, x)) (ht : xk_ty x y = .int) (hW : W.testBit (cn k + y) = true) (hv : ok_v n.toInt (eG (cn k + y))) : J_ W h0 (pu h.1 k y n, h.2) := by
  have hw : w_f h (pu h.1 k y n, h.2) k y := ⟨fun k' y' hn => ⟨if_neg hn, rfl, rfl⟩, rfl⟩
  refine ⟨g_I_f hj.1 hw hk ?_, w_f_M hw hj.2 hW⟩
  rw [pFi ht]
  show ok_v (pu h.1 k y n k y).toInt _
  rw [pu_at]
  exact hv
theorem J_ia {W : Nat} {h0 h : pH} {k n j : Nat} {z : Int32} (hj : J_ W h0 h) (hk : eL[k]? = some (1, n)) (hW : W.testBit (cn k) = true) (hv : ok_v z.toInt (eG (cn k))) : J_ W h0 (h.1, h.2.1, h.2.2.1, pu h.2.2.2.1 k j z, h.2.2.2.2) := ⟨g_I_i hj.1 hv hk (Or.inl rfl), w_a_M w_a_i hj.2 hW⟩
theorem gI_r {h : pH} {k x y r : Nat} {t : FieldType} (hG : g_I eG h) (hk : eL[k]? = some (0, x)) (hy : y < pnf x) (ht : xk_ty x y = .array t) (hg : (eG (cn k + y)).2.2 = [r + 1]) : pF h x k y = .inr (.inr (some r)) := by
  have h1 := (hG k (0, x) hk).1 rfl y hy
  rw [pFa ht] at h1 ⊢
  have h2 := h1.2.2
  rw [hg] at h2
  rcases h2 with h2 | h2
  · cases h2
  · have h2 := List.mem_singleton.mp h2
    cases hq : h.2.2.1 k y with
    | none =>
      rw [hq] at h2
      cases h2
    | some q =>
      rw [hq] at h2
      have h3 : ((q : Int) + 1).toNat = r + 1 := h2
      rw [show q = r by omega]
theorem gI_i {h : pH} {k x y : Nat} (hG : g_I eG h) (hk : eL[k]? = some (0, x)) (hy : y < pnf x) (ht : xk_ty x y = .int) : ok_v (h.1 k y).toInt (eG (cn k + y)) := by
  have h1 := (hG k (0, x) hk).1 rfl y hy
  rw [pFi ht] at h1
  exact h1
theorem gI_ia {h : pH} {k n j : Nat} (hG : g_I eG h) (hk : eL[k]? = some (1, n)) (hj : j < n) : ok_v (h.2.2.2.1 k j).toInt (eG (cn k)) := (hG k (1, n) hk).2.1 (Or.inl rfl) j hj
abbrev pvR (k : Nat) : pv := .inr (.inr (some k))
