/-! by hand: calls by the contracts of the table; asks (printed in part by wip/e2/ak.py) -/
theorem qa_0 : xe_look (xc 169) 0 = some (.aload_n 0, 1, 0, 0, 0) := by decide +kernel
theorem qa_1 : xe_look (xc 169) 1 = some (.iload_n 1, 1, 0, 0, 0) := by decide +kernel
theorem qa_2 : xe_look (xc 169) 2 = some (.iload_n 2, 1, 0, 0, 0) := by decide +kernel
theorem qa_3 : xe_look (xc 169) 3 = some (.invokevirtual 375, 3, 0, 190, 1122) := by decide +kernel
theorem qa_6 : xe_look (xc 169) 6 = some (.aload_n 0, 1, 0, 0, 0) := by decide +kernel
theorem qa_7 : xe_look (xc 169) 7 = some (.iload_n 3, 1, 0, 0, 0) := by decide +kernel
theorem qa_8 : xe_look (xc 169) 8 = some (.iload 4, 2, 0, 0, 0) := by decide +kernel
theorem qa_10 : xe_look (xc 169) 10 = some (.invokevirtual 378, 3, 0, 173, 1123) := by decide +kernel
theorem qa_13 : xe_look (xc 169) 13 = some (.ireturn, 1, 0, 0, 0) := by decide +kernel
theorem k_use {G : Nat → eE} {X : pH → Prop} {k : eK} {d : Nat} (hS : k_S G X k d) {vs : List pv} {h : pH} {xs ys : List Int} {m : Int} (hG : g_I G h) (hx : X h) (hM : m_M k.2.1 d (px_ar 0 vs) h xs ys) (hd : d ≤ 1000000) (hev : ev_t ((d : Int) :: (xs ++ ys)) k.2.2.1 m) (hm : m ≤ d) {P : Option pv × pH → Prop} (hP : ∀ o : Option pv × pH, g_I G o.2 → X o.2 → f_M k.2.2.2.1 h o.2 → (∃ p ∈ k.2.2.2.2, ∃ zs, m_P p ((d : Int) :: (xs ++ ys)) o.1 o.2 zs) → P o) : t_X d k.1 0 (px_ar 0 vs) [] h P := by
  obtain ⟨n, o, a1, a2, a3, a4, a5⟩ := hS vs h xs ys m hG hx hM hd hev hm
  exact ⟨n, o, a1, hP o a2 a3 a4 a5⟩
theorem pcal_v2 {i y k : Nat} {a b : pv} {r : List pv} (h1 : (xm y).2.2.2.2.2.2.2 = 1) (hn : (xm y).2.2.2.2.2.1 = 2) (hk : eL[k]? = some (0, (xm y).2.2.2.2.2.2.1)) : px_cal eL (.invokevirtual i) 0 y (b :: a :: .inr (.inr (some k)) :: r) = some ([.inr (.inr (some k)), a, b], r) := by
  unfold px_cal
  dsimp only
  rw [if_pos ⟨rfl, h1, by rw [hn]; exact Nat.le_add_left 2 _⟩, hn]
  show (if eL[k]? = some (0, (xm y).2.2.2.2.2.2.1) then _ else _) = _
  rw [if_pos hk]
  rfl
theorem in_187 : kk_187 ∈ eKT 173 := List.mem_singleton.mpr rfl
theorem ok_this : ok_v (cv (.inr (.inr (some 196)))) (0, 100000, [197]) := ⟨by decide, by decide, Or.inr (List.mem_singleton.mpr rfl)⟩
set_option maxHeartbeats 4000000 in
theorem asks_run {X : pH → Prop} (hX : x_K X eDX) {d W : Nat} (hK : k_I eG X eKT d) (hd : 10 ≤ d) (hd2 : d ≤ 1000000) {h0 g0 : pH} (hx0 : X h0) (hDX : W &&& eDX = 0) (hV : kk_187.2.2.2.1 &&& W = kk_187.2.2.2.1) (w228 : W.testBit (cn 228) = true) (hJ : J_ W h0 g0) {lv : List (Nat × pv)} {i : Nat} (hi : i < 32) {n a b : Int32} (hb : 0 ≤ b.toInt ∧ b.toInt ≤ 999) (l0 : px_lg lv 0 = some (.inr (.inr (some 196)))) (l1 : px_lg lv 1 = some (.inl (nI i))) (l2 : px_lg lv 2 = some (.inl n)) (l3 : px_lg lv 3 = some (.inl a)) (l4 : px_lg lv 4 = some (.inl b)) {P : Option pv × pH → Prop} (hP : ∀ (g : pH) (r : Int32), J_ W h0 g → P (some (.inl r), g)) : t_X d 169 0 lv [] g0 P := by
  refine t_0 qa_0 rfl (ld_a l0) ?_
  refine t_0 qa_1 rfl (ld_i l1) ?_
  refine t_0 qa_2 rfl (ld_i l2) ?_
  refine t_3 qa_3 rfl (ar := ([pvR 196, .inl (nI i), .inl n], [])) (pcal_v2 rfl rfl el_196) ⟨by omega, Nat.le_of_ble_eq_true rfl, Nat.le_of_ble_eq_true rfl, rfl⟩ ?_
  refine feels_run hi w228 hJ rfl rfl rfl (fun g hg => ?_)
  show t_X d 169 6 lv [] g P
  refine t_0 qa_6 rfl (ld_a l0) ?_
  refine t_0 qa_7 rfl (ld_i l3) ?_
  refine t_0 qa_8 rfl (ld_i l4) ?_
  refine t_3 qa_10 rfl (ar := ([pvR 196, .inl a, .inl b], [])) (pcal_v2 rfl rfl el_196) ⟨by omega, Nat.le_of_ble_eq_true rfl, Nat.le_of_ble_eq_true rfl, rfl⟩ ?_
  have hM : m_M kk_187.2.1 (d - 1) (px_ar 0 [pvR 196, .inl a, .inl b]) g [cv (pvR 196), a.toInt, b.toInt] [] := ⟨by show 8 ≤ d - 1; omega, ⟨⟨pvR 196, rfl, rfl, rfl, ok_this⟩, ⟨.inl a, rfl, rfl, rfl, ok_full32 a⟩, ⟨.inl b, rfl, rfl, rfl, hb.1, hb.2, Or.inl rfl⟩, trivial⟩, trivial, fun c hc => by cases hc⟩
  refine k_use (k := kk_187) (m := 0) (hK (d - 1) (by omega) 173 kk_187 in_187) hg.1 (hX _ _ _ hg.2 hDX hx0) hM (by omega) ⟨0, rfl, rfl⟩ (by omega) (fun o b1 b2 b3 b4 => ?_)
  obtain ⟨o1, o2⟩ := o
  obtain ⟨p, hp, zs, ⟨hr, -⟩⟩ := b4
  have hp := List.mem_singleton.mp hp
  subst hp
  obtain ⟨v, x, ys, e1, ⟨e2, -, -⟩, -, -⟩ := hr
  dsimp only at e1
  subst e1
  obtain ⟨r, rfl⟩ := ct_0 e2
  show t_X d 169 13 lv [.inl r] o2 P
  refine t_5 qa_13 rfl rfl ?_
  exact hP o2 r ⟨b1, f_M_tr hV hg.2 b3⟩
