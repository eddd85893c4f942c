/-! the start: what the constructors leave, as a plain world -/
/-- the roles are numbered otherwise than the cells as they are made -/
def z_pi : List Nat := [0, 1, 2, 3, 4, 5, 6, 7, 8, 9, 10, 11, 12, 13, 14, 15, 16, 17, 18, 19, 20, 21, 22, 23, 24, 25, 26, 27, 28, 29, 30, 31, 32, 33, 34, 35, 36, 37, 38, 39, 40, 41, 42, 43, 44, 45, 46, 47, 48, 49, 50, 51, 52, 53, 54, 55, 56, 57, 58, 59, 60, 61, 62, 63, 64, 65, 66, 67, 68, 69, 70, 71, 72, 73, 74, 75, 76, 77, 78, 79, 80, 81, 82, 83, 84, 85, 86, 87, 88, 89, 90, 91, 92, 93, 94, 95, 96, 97, 98, 99, 100, 101, 102, 103, 104, 105, 106, 107, 108, 109, 110, 111, 112, 113, 114, 115, 116, 117, 118, 119, 120, 121, 122, 123, 124, 125, 126, 127, 128, 129, 130, 131, 132, 133, 134, 135, 136, 137, 138, 139, 140, 141, 142, 143, 144, 145, 146, 147, 148, 149, 150, 151, 152, 153, 172, 173, 163, 164, 165, 166, 167, 168, 169, 170, 154, 155, 156, 157, 158, 159, 160, 161, 162, 171, 174, 175, 176, 177, 178, 179, 180, 181, 182, 183, 184, 185, 186, 187, 188, 189, 190, 191, 192, 193, 194, 195, 196, 197, 198, 199, 200, 201, 202, 203, 204, 205, 206, 207, 208, 209, 210, 211, 212, 213, 214, 215, 216, 217, 218, 219, 220, 221, 222, 223, 224, 225, 226, 227, 228, 229, 230, 231, 232, 233, 234, 235, 236, 237, 238, 239, 240, 241, 242, 243, 244, 245, 246, 247, 248, 249, 250, 251, 252, 253]
def z_pv : List Nat := [0, 1, 2, 3, 4, 5, 6, 7, 8, 9, 10, 11, 12, 13, 14, 15, 16, 17, 18, 19, 20, 21, 22, 23, 24, 25, 26, 27, 28, 29, 30, 31, 32, 33, 34, 35, 36, 37, 38, 39, 40, 41, 42, 43, 44, 45, 46, 47, 48, 49, 50, 51, 52, 53, 54, 55, 56, 57, 58, 59, 60, 61, 62, 63, 64, 65, 66, 67, 68, 69, 70, 71, 72, 73, 74, 75, 76, 77, 78, 79, 80, 81, 82, 83, 84, 85, 86, 87, 88, 89, 90, 91, 92, 93, 94, 95, 96, 97, 98, 99, 100, 101, 102, 103, 104, 105, 106, 107, 108, 109, 110, 111, 112, 113, 114, 115, 116, 117, 118, 119, 120, 121, 122, 123, 124, 125, 126, 127, 128, 129, 130, 131, 132, 133, 134, 135, 136, 137, 138, 139, 140, 141, 142, 143, 144, 145, 146, 147, 148, 149, 150, 151, 152, 153, 164, 165, 166, 167, 168, 169, 170, 171, 172, 156, 157, 158, 159, 160, 161, 162, 163, 173, 154, 155, 174, 175, 176, 177, 178, 179, 180, 181, 182, 183, 184, 185, 186, 187, 188, 189, 190, 191, 192, 193, 194, 195, 196, 197, 198, 199, 200, 201, 202, 203, 204, 205, 206, 207, 208, 209, 210, 211, 212, 213, 214, 215, 216, 217, 218, 219, 220, 221, 222, 223, 224, 225, 226, 227, 228, 229, 230, 231, 232, 233, 234, 235, 236, 237, 238, 239, 240, 241, 242, 243, 244, 245, 246, 247, 248, 249, 250, 251, 252, 253]
theorem z_pp : ∀ k, k < 254 → z_pv.getD (z_pi.getD k 0) 0 = k ∧ z_pi.getD k 0 < 254 := by decide +kernel
def z_role (a : xe_v) : Option Nat := match a.1 with
  | 3 => some (z_pv.getD a.2.1 0)
  | _ => none
def zs_f (k y : Nat) : xe_v := match xh_g xs_2 (z_pi.getD k 0) with
  | some c => c.2.2.1.getD y (9, 0, 0)
  | none => (9, 0, 0)
def zs_a (k j : Nat) : xe_v := match xh_g xs_2 (z_pi.getD k 0) with
  | some c => xe_ag c.2.2.2.2 c.2.2.2.1 j
  | none => (9, 0, 0)
def z_fi (r : Option (Nat × va_E)) (y : Nat) : Int32 := match r with
  | some (_, .inr (_, fs)) => (match fs[y]? with
    | some (.int x) => x
    | _ => 0)
  | _ => 0
def z_fl (r : Option (Nat × va_E)) (y : Nat) : Int64 := match r with
  | some (_, .inr (_, fs)) => (match fs[y]? with
    | some (.long x) => x
    | _ => 0)
  | _ => 0
def z_ai (r : Option (Nat × va_E)) : Nat → Int32 := match r with
  | some (_, .inl (_, _, .inl f)) => f
  | _ => fun _ => 0
def z_al (r : Option (Nat × va_E)) : Nat → Int64 := match r with
  | some (_, .inl (_, _, .inr (.inl f))) => f
  | _ => fun _ => 0
def z_h (ws : va_W) : pH := (fun k y => z_fi ws[z_pi.getD k 0]? y, fun k y => z_fl ws[z_pi.getD k 0]? y, fun k y => z_role (zs_f k y), fun k => z_ai ws[z_pi.getD k 0]?, fun k => z_al ws[z_pi.getD k 0]?, fun k j => z_role (zs_a k j))
def z_in (n : Nat) (e : eE) : Bool := decide (e.1 ≤ (n : Int)) && (decide ((n : Int) ≤ e.2.1) && (e.2.2.isEmpty || e.2.2.contains n))
def z_i (a : xe_v) (e : eE) : Bool := a.1 == 0 && (decide (e.1 ≤ (a.2.1 : Int) - 2147483648) && (decide ((a.2.2 : Int) - 2147483648 ≤ e.2.1) && e.2.2.isEmpty))
def z_l (a : xe_v) (e : eE) : Bool := a.1 == 1 && (decide (e.1 ≤ (a.2.1 : Int) - 9223372036854775808) && (decide ((a.2.2 : Int) - 9223372036854775808 ≤ e.2.1) && e.2.2.isEmpty))
def z_r (a : xe_v) (e : eE) : Bool := (a.1 == 2 && z_in 0 e) || (a.1 == 3 && z_in (z_pv.getD a.2.1 0 + 1) e)
def z_rz (a : xe_v) : Bool := a.1 == 2 || a.1 == 3
def z_f (ty : FieldType) (a : xe_v) (e : eE) : Bool := match ty with
  | .long => z_l a e
  | .object _ => z_r a e
  | .array _ => z_r a e
  | _ => z_i a e
def z_c (k : Nat) (t : Nat × Nat) (c : xe_c) : Bool := c.1 == t.1 && (c.2.1 == t.2 && (match t.1 with
  | 0 => c.2.2.1.length == pnf t.2 && (List.range (pnf t.2)).all (fun y => z_f (xk_ty t.2 y) (c.2.2.1.getD y (9, 0, 0)) (eG (cn k + y)))
  | 1 => z_i c.2.2.2.1 (eG (cn k)) && c.2.2.2.2.all (fun n => z_i n.2 (eG (cn k)))
  | 2 => z_i c.2.2.2.1 (eG (cn k)) && c.2.2.2.2.all (fun n => z_i n.2 (eG (cn k)))
  | 3 => z_l c.2.2.2.1 (eG (cn k)) && c.2.2.2.2.all (fun n => z_l n.2 (eG (cn k)))
  | 4 => (z_rz c.2.2.2.1 && c.2.2.2.2.all (fun n => z_rz n.2)) && (List.range t.2).all (fun j => z_r (xe_ag c.2.2.2.2 c.2.2.2.1 j) (eG (cn k)))
  | _ => false))
def z_k (k : Nat) : Bool := match eL[k]?, xh_g xs_2 (z_pi.getD k 0) with
  | some t, some c => z_c k t c
  | _, _ => false
theorem z_all : (List.range 254).all z_k = true := by decide +kernel
theorem eL_len : eL.length = 254 := by decide +kernel
theorem z_in_ok {n : Nat} {e : eE} (h : z_in n e = true) : ok_v (n : Int) e := by
  unfold z_in at h
  simp only [Bool.and_eq_true, decide_eq_true_eq, Bool.or_eq_true] at h
  obtain ⟨h1, h2, h3⟩ := h
  refine ⟨h1, h2, ?_⟩
  rcases h3 with h3 | h3
  · exact Or.inl (List.isEmpty_iff.mp h3)
  · exact Or.inr (by rw [Int.toNat_natCast]; exact List.contains_iff_mem.mp h3)
theorem z_i_ok {a : xe_v} {e : eE} {b : Nat} {as : List Nat} {v : Value} (h : z_i a e = true) (hg : xe_g b as a v) : ∃ x : Int32, v = .int x ∧ ok_v x.toInt e := by
  unfold z_i at h
  simp only [Bool.and_eq_true, decide_eq_true_eq] at h
  obtain ⟨h0, h1, h2, h3⟩ := h
  obtain ⟨x, rfl, q1, q2⟩ := xe_g0 h0 hg
  refine ⟨x, rfl, ?_, ?_, Or.inl (List.isEmpty_iff.mp h3)⟩
  · rw [xe_ti]; omega
  · rw [xe_ti]; omega
theorem z_l_ok {a : xe_v} {e : eE} {b : Nat} {as : List Nat} {v : Value} (h : z_l a e = true) (hg : xe_g b as a v) : ∃ x : Int64, v = .long x ∧ ok_v x.toInt e := by
  unfold z_l at h
  simp only [Bool.and_eq_true, decide_eq_true_eq] at h
  obtain ⟨h0, h1, h2, h3⟩ := h
  obtain ⟨x, rfl, q1, q2⟩ := xe_g1 h0 hg
  refine ⟨x, rfl, ?_, ?_, Or.inl (List.isEmpty_iff.mp h3)⟩
  · rw [xe_tl]; omega
  · rw [xe_tl]; omega
section ZOK
variable {b : Nat} {as : List Nat} {ad : Nat → Nat} {ws : va_W} {E : Nat → ClassId}
theorem z_rz_ok {a : xe_v} {v : Value} (had : ∀ r q, as[r]? = some q → ad (z_pv.getD r 0) = q) (h : z_rz a = true) (hg : xe_g b as a v) : v = va_rf ((z_role a).map ad) := by
  unfold z_rz at h
  rw [Bool.or_eq_true] at h
  rcases h with h0 | h0
  · have h2 : a.1 = 2 := by simpa using h0
    have e1 : z_role a = none := by
      unfold z_role
      rw [h2]
      rfl
    rw [e1, xe_g2 h0 hg]
    rfl
  · have h2 : a.1 = 3 := by simpa using h0
    have e1 : z_role a = some (z_pv.getD a.2.1 0) := by
      unfold z_role
      rw [h2]
      rfl
    obtain ⟨q, q1, rfl⟩ := xe_g3 h0 hg
    rw [e1]
    show Value.ref q = .ref (ad (z_pv.getD a.2.1 0))
    rw [had _ _ q1]
theorem z_r_rz {a : xe_v} {e : eE} (h : z_r a e = true) : z_rz a = true ∧ ok_v (cv (.inr (.inr (z_role a)))) e := by
  unfold z_r at h
  unfold z_rz
  simp only [Bool.or_eq_true, Bool.and_eq_true] at h ⊢
  rcases h with ⟨h0, h1⟩ | ⟨h0, h1⟩
  · have h2 : a.1 = 2 := by simpa using h0
    have e1 : z_role a = none := by
      unfold z_role
      rw [h2]
      rfl
    rw [e1]
    exact ⟨Or.inl h0, z_in_ok h1⟩
  · have h2 : a.1 = 3 := by simpa using h0
    have e1 : z_role a = some (z_pv.getD a.2.1 0) := by
      unfold z_role
      rw [h2]
      rfl
    rw [e1]
    have := z_in_ok h1
    exact ⟨Or.inr h0, this⟩
theorem z_r_ok {a : xe_v} {e : eE} {v : Value} (had : ∀ r q, as[r]? = some q → ad (z_pv.getD r 0) = q) (h : z_r a e = true) (hg : xe_g b as a v) : v = va_rf ((z_role a).map ad) ∧ ok_v (cv (.inr (.inr (z_role a)))) e := ⟨z_rz_ok had (z_r_rz h).1 hg, (z_r_rz h).2⟩
theorem z_f_ok {k x y q : Nat} {fs : List Value} {v : Value} {a : xe_v} {e : eE} (hws : ws[z_pi.getD k 0]? = some (q, .inr (x, fs))) (hy : fs[y]? = some v) (hay : zs_f k y = a) (hg : xe_g b as a v) (h : z_f (xk_ty x y) a e = true) (had : ∀ r q, as[r]? = some q → ad (z_pv.getD r 0) = q) : v = pV ad (pF (z_h ws) x k y) ∧ ok_v (cv (pF (z_h ws) x k y)) e := by
  unfold pF
  have hi : ∀ x0 : Int32, v = .int x0 → (z_h ws).1 k y = x0 := fun x0 e0 => by
    show z_fi ws[z_pi.getD k 0]? y = x0
    rw [hws]
    show (match fs[y]? with
      | some (.int x) => x
      | _ => 0) = x0
    rw [hy, e0]
  have hl : ∀ x0 : Int64, v = .long x0 → (z_h ws).2.1 k y = x0 := fun x0 e0 => by
    show z_fl ws[z_pi.getD k 0]? y = x0
    rw [hws]
    show (match fs[y]? with
      | some (.long x) => x
      | _ => 0) = x0
    rw [hy, e0]
  have hr : (z_h ws).2.2.1 k y = z_role a := by
    show z_role (zs_f k y) = z_role a
    rw [hay]
  generalize xk_ty x y = ty at h ⊢
  have ho : z_r a e = true → v = pV ad (.inr (.inr ((z_h ws).2.2.1 k y))) ∧ ok_v (cv (.inr (.inr ((z_h ws).2.2.1 k y)))) e := fun h => by
    obtain ⟨h1, h2⟩ := z_r_ok had h hg
    rw [hr]
    refine ⟨?_, h2⟩
    rw [h1]
    cases z_role a <;> rfl
  have hn : z_i a e = true → v = pV ad (.inl ((z_h ws).1 k y)) ∧ ok_v (cv (.inl ((z_h ws).1 k y))) e := fun h => by
    obtain ⟨x0, h1, h2⟩ := z_i_ok h hg
    rw [hi x0 h1]
    exact ⟨h1, h2⟩
  have hm : z_l a e = true → v = pV ad (.inr (.inl ((z_h ws).2.1 k y))) ∧ ok_v (cv (.inr (.inl ((z_h ws).2.1 k y)))) e := fun h => by
    obtain ⟨x0, h1, h2⟩ := z_l_ok h hg
    rw [hl x0 h1]
    exact ⟨h1, h2⟩
  cases ty <;> first | exact hn h | exact hm h | exact ho h
theorem z_ag {p : xe_v → Bool} {d : xe_v} : ∀ {o : List (Nat × xe_v)}, p d = true → (o.all fun n => p n.2) = true → ∀ j, p (xe_ag o d j) = true
  | [], hd, _, _ => hd
  | q :: o, hd, ho, j => by
    rw [List.all_cons, Bool.and_eq_true] at ho
    show p (if q.1 == j then q.2 else xe_ag o d j) = true
    split
    · exact ho.1
    · exact z_ag hd ho.2 j
theorem z_cell {k q : Nat} {t : Nat × Nat} {c : xe_c} {e : va_E} (had : ∀ r q, as[r]? = some q → ad (z_pv.getD r 0) = q) (hc : xh_g xs_2 (z_pi.getD k 0) = some c) (hz : z_c k t c = true) (hws : ws[z_pi.getD k 0]? = some (q, e)) (hr : xe_r E b as c e) : pCe E ad (z_h ws) k t = e ∧ (t.1 = 0 → ∀ y, y < pnf t.2 → ok_v (cv (pF (z_h ws) t.2 k y)) (eG (cn k + y))) ∧ (t.1 = 1 ∨ t.1 = 2 → ∀ j, j < t.2 → ok_v ((z_h ws).2.2.2.1 k j).toInt (eG (cn k))) ∧ (t.1 = 3 → ∀ j, j < t.2 → ok_v ((z_h ws).2.2.2.2.1 k j).toInt (eG (cn k))) ∧ (t.1 = 4 → ∀ j, j < t.2 → ok_v (cv (.inr (.inr ((z_h ws).2.2.2.2.2 k j)))) (eG (cn k))) := by
  obtain ⟨kd, x⟩ := t
  obtain ⟨c1, c2, cl, cd, co⟩ := c
  unfold z_c at hz
  rw [Bool.and_eq_true, Bool.and_eq_true] at hz
  obtain ⟨hz1, hz2, hz3⟩ := hz
  have e1 : c1 = kd := by simpa using hz1
  have e2 : c2 = x := by simpa using hz2
  subst e1 e2
  have hza : ∀ j, zs_a k j = xe_ag co cd j := fun j => by
    unfold zs_a
    rw [hc]
  dsimp only at hz3 ⊢
  match c1, hc, hr, hz3 with
  | 0, hc, hr, hz3 =>
    obtain ⟨fs, rfl, hw⟩ := hr
    dsimp only at hw hws
    replace hz3 : (_ && _) = true := hz3
    rw [Bool.and_eq_true] at hz3
    have hlen : cl.length = pnf c2 := by simpa using hz3.1
    have hall : ∀ y, y < pnf c2 → z_f (xk_ty c2 y) (cl.getD y (9, 0, 0)) (eG (cn k + y)) = true := fun y hy => List.all_eq_true.mp hz3.2 y (List.mem_range.mpr hy)
    have hfl := xe_w_len hw
    have hone : ∀ y, y < pnf c2 → ∃ v, fs[y]? = some v ∧ v = pV ad (pF (z_h ws) c2 k y) ∧ ok_v (cv (pF (z_h ws) c2 k y)) (eG (cn k + y)) := fun y hy => by
      have ha : cl[y]? = some (cl.getD y (9, 0, 0)) := by
        rw [List.getD_eq_getElem?_getD, List.getElem?_eq_getElem (by omega)]
        rfl
      obtain ⟨v, v1, v2⟩ := xe_w_get hw ha
      have hf : zs_f k y = cl.getD y (9, 0, 0) := by
        unfold zs_f
        rw [hc]
      exact ⟨v, v1, z_f_ok hws v1 hf v2 (hall y hy) had⟩
    refine ⟨?_, fun _ y hy => ?_, fun h => by omega, fun h => by omega, fun h => by omega⟩
    · show Sum.inr (c2, (List.range (pnf c2)).map (fun y => pV ad (pF (z_h ws) c2 k y))) = Sum.inr (c2, fs)
      congr 2
      apply List.ext_getElem?
      intro y
      by_cases hy : y < pnf c2
      · obtain ⟨v, v1, v2, -⟩ := hone y hy
        rw [v1, List.getElem?_map, List.getElem?_range hy]
        show some (pV ad (pF (z_h ws) c2 k y)) = some v
        rw [v2]
      · rw [List.getElem?_eq_none (by rw [List.length_map, List.length_range]; omega), List.getElem?_eq_none (by omega)]
    · obtain ⟨v, v1, v2, v3⟩ := hone y hy
      exact v3
  | 1, hc, hr, hz3 =>
    obtain ⟨f, rfl, hw⟩ := hr
    replace hz3 : (_ && _) = true := hz3
    rw [Bool.and_eq_true] at hz3
    have hf : (z_h ws).2.2.2.1 k = f := by
      show z_ai ws[z_pi.getD k 0]? = f
      rw [hws]
      rfl
    refine ⟨?_, fun h => by omega, fun _ j hj => ?_, fun h => by omega, fun h => by omega⟩
    · show Sum.inl (E 0, c2, Sum.inl ((z_h ws).2.2.2.1 k)) = _
      rw [hf]
    · obtain ⟨x0, h1, h2⟩ := z_i_ok (z_ag (p := fun a => z_i a (eG (cn k))) hz3.1 hz3.2 j) (hw j)
      cases h1
      rw [hf]
      exact h2
  | 2, hc, hr, hz3 =>
    obtain ⟨f, rfl, hw⟩ := hr
    replace hz3 : (_ && _) = true := hz3
    rw [Bool.and_eq_true] at hz3
    have hf : (z_h ws).2.2.2.1 k = f := by
      show z_ai ws[z_pi.getD k 0]? = f
      rw [hws]
      rfl
    refine ⟨?_, fun h => by omega, fun _ j hj => ?_, fun h => by omega, fun h => by omega⟩
    · show Sum.inl (E 1, c2, Sum.inl ((z_h ws).2.2.2.1 k)) = _
      rw [hf]
    · obtain ⟨x0, h1, h2⟩ := z_i_ok (z_ag (p := fun a => z_i a (eG (cn k))) hz3.1 hz3.2 j) (hw j)
      cases h1
      rw [hf]
      exact h2
  | 3, hc, hr, hz3 =>
    obtain ⟨f, rfl, hw⟩ := hr
    replace hz3 : (_ && _) = true := hz3
    rw [Bool.and_eq_true] at hz3
    have hf : (z_h ws).2.2.2.2.1 k = f := by
      show z_al ws[z_pi.getD k 0]? = f
      rw [hws]
      rfl
    refine ⟨?_, fun h => by omega, fun h => by omega, fun _ j hj => ?_, fun h => by omega⟩
    · show Sum.inl (E 2, c2, Sum.inr (Sum.inl ((z_h ws).2.2.2.2.1 k))) = _
      rw [hf]
    · obtain ⟨x0, h1, h2⟩ := z_l_ok (z_ag (p := fun a => z_l a (eG (cn k))) hz3.1 hz3.2 j) (hw j)
      cases h1
      rw [hf]
      exact h2
  | 4, hc, hr, hz3 =>
    obtain ⟨f, rfl, hw⟩ := hr
    replace hz3 : (_ && _) = true := hz3
    rw [Bool.and_eq_true] at hz3
    rw [Bool.and_eq_true] at hz3
    obtain ⟨⟨hz4, hz5⟩, hz6⟩ := hz3
    have hj1 : ∀ j, f j = (z_role (zs_a k j)).map ad := fun j => by
      have h1 := z_rz_ok had (z_ag (p := z_rz) hz4 hz5 j) (hw j)
      rw [hza]
      cases hfj : f j with
      | none =>
        rw [hfj] at h1
        cases hz : (z_role (xe_ag co cd j)).map ad with
        | none => rfl
        | some y => rw [hz] at h1; cases h1
      | some y0 =>
        rw [hfj] at h1
        cases hz : (z_role (xe_ag co cd j)).map ad with
        | none => rw [hz] at h1; cases h1
        | some y => rw [hz] at h1; cases h1; rfl
    refine ⟨?_, fun h => by omega, fun h => by omega, fun h => by omega, fun _ j hj => ?_⟩
    · show Sum.inl (E 3, c2, Sum.inr (Sum.inr (Sum.inr (Sum.inr (fun j => (z_role (zs_a k j)).map ad))))) = _
      rw [show (fun j => (z_role (zs_a k j)).map ad) = f from funext fun j => (hj1 j).symm]
    · show ok_v (cv (.inr (.inr (z_role (zs_a k j))))) _
      rw [hza]
      exact (z_r_rz (List.all_eq_true.mp hz6 j (List.mem_range.mpr hj))).2
  | n + 5, hc, hr, hz3 => cases hz3
theorem z_one (had : ∀ r q, as[r]? = some q → ad (z_pv.getD r 0) = q) (hR : xe_R E b as xs_2 ws) {k : Nat} (hk : k < 254) : ∃ t q e, eL[k]? = some t ∧ ws[z_pi.getD k 0]? = some (q, e) ∧ ad k = q ∧ pCe E ad (z_h ws) k t = e ∧ (t.1 = 0 → ∀ y, y < pnf t.2 → ok_v (cv (pF (z_h ws) t.2 k y)) (eG (cn k + y))) ∧ (t.1 = 1 ∨ t.1 = 2 → ∀ j, j < t.2 → ok_v ((z_h ws).2.2.2.1 k j).toInt (eG (cn k))) ∧ (t.1 = 3 → ∀ j, j < t.2 → ok_v ((z_h ws).2.2.2.2.1 k j).toInt (eG (cn k))) ∧ (t.1 = 4 → ∀ j, j < t.2 → ok_v (cv (.inr (.inr ((z_h ws).2.2.2.2.2 k j)))) (eG (cn k))) := by
  obtain ⟨h1, h2, h3, h4⟩ := hR
  have hz := List.all_eq_true.mp z_all k (List.mem_range.mpr hk)
  unfold z_k at hz
  split at hz
  · next t c ht hc =>
    obtain ⟨q, e, w1, w2⟩ := h4 _ c hc
    have hq : as[z_pi.getD k 0]? = some q := by
      rw [← h1, List.getElem?_map, w1]
      rfl
    have hq2 := had _ q hq
    rw [(z_pp k hk).1] at hq2
    exact ⟨t, q, e, ht, w1, hq2, z_cell had hc hz w1 w2⟩
  · cases hz
theorem z_at (had : ∀ r q, as[r]? = some q → ad (z_pv.getD r 0) = q) (hR : xe_R E b as xs_2 ws) {k : Nat} (hk : k < 254) : (pW eL E ad (z_h ws))[k]? = ws[z_pi.getD k 0]? := by
  obtain ⟨t, q, e, a1, a2, a3, a4, -⟩ := z_one had hR hk
  unfold pW
  rw [a2, List.getElem?_map, List.getElem?_range (by rw [eL_len]; exact hk)]
  show some (ad k, pCe E ad (z_h ws) k (eL.getD k (9, 0))) = some (q, e)
  rw [List.getD_eq_getElem?_getD, a1, a3]
  show some (q, pCe E ad (z_h ws) k t) = some (q, e)
  rw [a4]
theorem z_lt {k : Nat} {p : Nat × va_E} {h : pH} (hk : (pW eL E ad h)[k]? = some p) : k < 254 := by
  have := (List.getElem?_eq_some_iff.mp hk).1
  unfold pW at this
  rw [List.length_map, List.length_range, eL_len] at this
  exact this
theorem z_P {D : va_G} {H : Heap} (had : ∀ r q, as[r]? = some q → ad (z_pv.getD r 0) = q) (hR : xe_R E b as xs_2 ws) (hP : va_P D xk_cl ws H) : va_P D xk_cl (pW eL E ad (z_h ws)) H := fun k q hk => hP _ q (by rw [← z_at had hR (z_lt hk)]; exact hk)
theorem z_D {A : Nat → Prop} (had : ∀ r q, as[r]? = some q → ad (z_pv.getD r 0) = q) (hR : xe_R E b as xs_2 ws) (hD : va_D A ws) : va_D A (pW eL E ad (z_h ws)) := by
  refine ⟨fun i j p q hi hj e => ?_, fun k q hk => hD.2 _ q (by rw [← z_at had hR (z_lt hk)]; exact hk)⟩
  have li := z_lt hi
  have lj := z_lt hj
  rw [z_at had hR li] at hi
  rw [z_at had hR lj] at hj
  have := hD.1 _ _ p q hi hj e
  rw [← (z_pp i li).1, ← (z_pp j lj).1, this]
theorem z_I (had : ∀ r q, as[r]? = some q → ad (z_pv.getD r 0) = q) (hR : xe_R E b as xs_2 ws) : g_I eG (z_h ws) := fun k t ht => by
  have hk : k < 254 := by
    rw [← eL_len]
    exact (List.getElem?_eq_some_iff.mp ht).1
  obtain ⟨t2, q, e, a1, a2, a3, a4, a5⟩ := z_one had hR hk
  rw [a1] at ht
  cases ht
  exact a5
theorem z_35 : zs_f 196 35 = (0, 2147483648, 2147483648) ∧ z_pi.getD 196 0 = 196 ∧ (xh_g xs_2 196).map (fun c => (c.1, c.2.2.1.length)) = some (0, 90) := by decide +kernel
theorem z_xL (hR : xe_R E b as xs_2 ws) : xL (z_h ws) := by
  obtain ⟨h1, h2, h3, h4⟩ := hR
  have e0 : fF (z_h ws) 35 = 0 := by
    cases hc : xh_g xs_2 196 with
    | none =>
      have := z_35.2.2
      rw [hc] at this
      cases this
    | some c =>
      obtain ⟨q, e, w1, w2⟩ := h4 196 c hc
      have hm := z_35.2.2
      rw [hc] at hm
      have hm := Option.some.inj hm
      obtain ⟨c1, c2, cl, cd, co⟩ := c
      have k1 : c1 = 0 := congrArg Prod.fst hm
      have k2 : cl.length = 90 := congrArg Prod.snd hm
      subst k1
      obtain ⟨fs, rfl, hw⟩ := w2
      have ha : cl[35]? = some (0, 2147483648, 2147483648) := by
        have := z_35.1
        unfold zs_f at this
        rw [z_35.2.1, hc] at this
        dsimp only at this
        rw [List.getD_eq_getElem?_getD, List.getElem?_eq_getElem (by omega)] at this
        rw [List.getElem?_eq_getElem (by omega)]
        exact congrArg some this
      obtain ⟨v, v1, v2⟩ := xe_w_get hw ha
      obtain ⟨x, rfl, q1, q2⟩ := xe_g0 rfl v2
      show (z_fi ws[z_pi.getD 196 0]? 35).toInt = 0
      rw [z_35.2.1, w1]
      show Int32.toInt (match fs[35]? with
        | some (Value.int x) => x
        | _ => 0) = 0
      rw [v1]
      show x.toInt = 0
      rw [xe_ti]
      dsimp only at q1 q2
      omega
  intro q hq
  rw [e0] at hq
  omega
end ZOK
