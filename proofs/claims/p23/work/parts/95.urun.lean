/-! by hand: the law's own runs: the plain machine with a script -/
def u_X (sc : pS) (d μ pc : Nat) (lv : List (Nat × pv)) (st : List pv) (h : pH) (P : Option pv × pH → Prop) : Prop := ∃ n o, px_run eL n d sc μ pc lv st h = some o ∧ P o
theorem px_run_u {sc : pS} {n d μ pc : Nat} {lv : List (Nat × pv)} {st : List pv} {h : pH} {q : xe_I} (hq : xe_look (xc μ) pc = some q) : px_run eL (n + 1) d sc μ pc lv st h = px_step eL d sc μ (fun pc2 lv2 st2 h2 => px_run eL n d sc μ pc2 lv2 st2 h2) (fun y vs h2 => px_run eL n (d - 1) none y 0 (px_ar 0 vs) [] h2) q pc lv st h := by
  show (match xe_look (xc μ) pc with
    | some q => px_step eL d sc μ (fun pc2 lv2 st2 h2 => px_run eL n d sc μ pc2 lv2 st2 h2) (fun y vs h2 => px_run eL n (d - 1) none y 0 (px_ar 0 vs) [] h2) q pc lv st h
    | none => none) = _
  rw [hq]
section UX
variable {sc : pS} {d μ pc : Nat} {lv : List (Nat × pv)} {st : List pv} {h : pH} {P : Option pv × pH → Prop} {q : xe_I}
theorem u_0 (hq : xe_look (xc μ) pc = some q) (hk : px_kd q.1 q.2.2.1 = 0) {st2 : List pv} (h1 : px_push eL d sc q.1 q.2.2.1 q.2.2.2.1 lv st h = some st2) (ht : u_X sc d μ (pc + q.2.1) lv st2 h P) : u_X sc d μ pc lv st h P := by
  obtain ⟨n, o, h2, h3⟩ := ht
  refine ⟨n + 1, o, ?_, h3⟩
  rw [px_run_u hq]
  unfold px_step
  rw [hk]
  rw [show px_sd 0 = px_h0 from rfl]
  unfold px_h0
  rw [h1]
  exact h2
theorem u_1 (hq : xe_look (xc μ) pc = some q) (hk : px_kd q.1 q.2.2.1 = 1) {t : Nat × List pv} (h1 : px_bf q.1 pc st = some t) (ht : u_X sc d μ t.1 lv t.2 h P) : u_X sc d μ pc lv st h P := by
  obtain ⟨n, o, h2, h3⟩ := ht
  refine ⟨n + 1, o, ?_, h3⟩
  rw [px_run_u hq]
  unfold px_step
  rw [hk]
  rw [show px_sd 1 = px_h1 from rfl]
  unfold px_h1
  rw [h1]
  exact h2
theorem u_2 (hq : xe_look (xc μ) pc = some q) (hk : px_kd q.1 q.2.2.1 = 2) {w : List (Nat × pv) × List pv} (h1 : px_of q.1 (xm μ).2.2.1 lv st = some w) (ht : u_X sc d μ (pc + q.2.1) w.1 w.2 h P) : u_X sc d μ pc lv st h P := by
  obtain ⟨n, o, h2, h3⟩ := ht
  refine ⟨n + 1, o, ?_, h3⟩
  rw [px_run_u hq]
  unfold px_step
  rw [hk]
  rw [show px_sd 2 = px_h2 from rfl]
  unfold px_h2
  rw [h1]
  exact h2
theorem u_3 (hq : xe_look (xc μ) pc = some q) (hk : px_kd q.1 q.2.2.1 = 3) {ar : List pv × List pv} (h1 : px_cal eL q.1 q.2.2.1 q.2.2.2.1 st = some ar) (hc : 1 ≤ d ∧ px_sum ar.2 ≤ 8 ∧ px_sum ar.1 ≤ (xm q.2.2.2.1).2.2.1 ∧ (xm q.2.2.2.1).2.2.2.2.1 = (0, 0)) (ht : t_X (d - 1) q.2.2.2.1 0 (px_ar 0 ar.1) [] h (fun o => u_X sc d μ (pc + 3) lv (o.1.toList ++ ar.2) o.2 P)) : u_X sc d μ pc lv st h P := by
  obtain ⟨n1, o1, g1, n2, o2, g2, g3⟩ := ht
  refine ⟨max n1 n2 + 1, o2, ?_, g3⟩
  rw [px_run_u hq]
  unfold px_step
  rw [hk]
  rw [show px_sd 3 = px_h3 from rfl]
  unfold px_h3
  rw [h1]
  dsimp only
  rw [if_pos hc, px_run_le eL (Nat.le_max_left n1 n2) g1]
  exact px_run_le eL (Nat.le_max_right n1 n2) g2
theorem u_5 (hq : xe_look (xc μ) pc = some q) (hk : px_kd q.1 q.2.2.1 = 5) {r : Option pv} (h1 : px_ret (xm μ).2.2.2.1 q.1 st = some r) (ht : P (r, h)) : u_X sc d μ pc lv st h P := by
  refine ⟨1, (r, h), ?_, ht⟩
  rw [px_run_u hq]
  unfold px_step
  rw [hk]
  rw [show px_sd 5 = px_h5 from rfl]
  unfold px_h5
  rw [h1]
end UX
/-- an int of the script -/
theorem pq_sa {d x y L : Nat} {xs : Nat → Int32} {lv : List (Nat × pv)} {h : pH} {r : List pv} {e : Int} (hL : L ≤ 3072) (he : 0 ≤ e ∧ e < L) : px_push eL d (some (xs, L)) .iaload x y lv (oI e :: pvR 1000 :: r) h = some (.inl (xs e.toNat) :: r) := by
  have e1 : (Int32.ofInt e).toInt = e := oT (by omega) (by omega)
  show px_iald eL (some (xs, L)) h (.inl (Int32.ofInt e) :: .inr (.inr (some 1000)) :: r) = _
  unfold px_iald
  dsimp only
  rw [if_pos rfl, if_neg (e_clamp (by rw [e1]; exact he.1) (by rw [e1]; omega))]
  show some (.inl (xs (Int32.ofInt e).toInt.toNat) :: r) = _
  rw [e1]
theorem pq_sl {d x y L : Nat} {xs : Nat → Int32} {lv : List (Nat × pv)} {h : pH} {r : List pv} : px_push eL d (some (xs, L)) .arraylength x y lv (pvR 1000 :: r) h = some (oI (L : Int) :: r) := by
  show px_alen eL (some (xs, L)) (.inr (.inr (some 1000)) :: r) = _
  unfold px_alen
  dsimp only
  rw [if_pos rfl]
  show some (.inl (nI L) :: r) = _
  rw [nI_o]
theorem pcal_w {i y k n : Nat} {as : List pv} {r : List pv} (h1 : (xm y).2.2.2.2.2.2.2 = 1) (hn : (xm y).2.2.2.2.2.1 = n) (ha : as.length = n) (hk : eL[k]? = some (0, (xm y).2.2.2.2.2.2.1)) : px_cal eL (.invokevirtual i) 0 y (as ++ .inr (.inr (some k)) :: r) = some (.inr (.inr (some k)) :: as.reverse, r) := by
  unfold px_cal
  dsimp only
  rw [if_pos ⟨rfl, h1, by rw [hn, List.length_append, ha]; exact Nat.le_add_right n _⟩, hn, ← ha, List.drop_left, List.take_left]
  dsimp only
  rw [if_pos hk]
/-- a call by a contract of the table that asks for nothing of the heap -/
theorem kc_go {d y : Nat} {k : eK} (hin : k ∈ eKT y) (hy : k.1 = y) (hd : d ≤ 1000000) {g : pH} (hG : g_I eG g) (hx : xL g) {vs : List pv} {xs : List Int} (hM : m_M k.2.1 d (px_ar 0 vs) g xs []) (hm : k.2.2.1 = (0, [])) {n : Nat} (hp : (k.2.2.2.2.all fun p => match p.1 with
    | some t => t.1 == n
    | none => false) = true) {P : Option pv × pH → Prop} (hP : ∀ (v : pv) (g1 : pH), ct v = n → g_I eG g1 → xL g1 → f_M k.2.2.2.1 g g1 → P (some v, g1)) : t_X d y 0 (px_ar 0 vs) [] g P := by
  subst hy
  refine k_use (kt_L d k.1 k hin) hG hx hM hd (m := 0) (by rw [hm]; exact ⟨0, rfl, rfl⟩) (by omega) (fun o b1 b2 b3 b4 => ?_)
  obtain ⟨o1, o2⟩ := o
  obtain ⟨p, hpm, zs, hr, -⟩ := b4
  have h1 := List.all_eq_true.mp hp p hpm
  cases hq : p.1 with
  | none => rw [hq] at h1; cases h1
  | some t =>
    rw [hq] at h1 hr
    obtain ⟨v, x, ys, e1, ⟨e2, -, -⟩, -, -⟩ := hr
    dsimp only at e1 h1
    subst e1
    have : t.1 = n := by simpa using h1
    exact hP v o2 (by rw [e2, this]) b1 b2 b3
theorem ok_0 : ok_v (cv (.inr (.inr (some 0)))) (0, 100000, [1]) := ⟨by decide, by decide, Or.inr (List.mem_singleton.mpr rfl)⟩
