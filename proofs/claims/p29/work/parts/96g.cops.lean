section
/-! the tie: ops of the class that read the tape or a slide (printed by wip/e2/t2.py) -/
theorem qcch_0 : xe_look (xc 110) 0 = some (.aload_n 0, 1, 0, 0, 0) := by decide +kernel
theorem qcch_1 : xe_look (xc 110) 1 = some (.getfield 16, 3, 11, 2, 983) := by decide +kernel
theorem qcch_4 : xe_look (xc 110) 4 = some (.iload_n 1, 1, 0, 0, 0) := by decide +kernel
theorem qcch_5 : xe_look (xc 110) 5 = some (.invokevirtual 107, 3, 0, 84, 984) := by decide +kernel
theorem qcch_8 : xe_look (xc 110) 8 = some (.astore_n 3, 1, 0, 0, 0) := by decide +kernel
theorem qcda_0 : xe_look (xc 116) 0 = some (.aload_n 0, 1, 0, 0, 0) := by decide +kernel
theorem qcda_1 : xe_look (xc 116) 1 = some (.getfield 16, 3, 11, 2, 983) := by decide +kernel
theorem qcda_4 : xe_look (xc 116) 4 = some (.iload_n 1, 1, 0, 0, 0) := by decide +kernel
theorem qcda_5 : xe_look (xc 116) 5 = some (.invokevirtual 107, 3, 0, 84, 984) := by decide +kernel
theorem qcda_8 : xe_look (xc 116) 8 = some (.astore_n 3, 1, 0, 0, 0) := by decide +kernel
theorem qcod_0 : xe_look (xc 137) 0 = some (.aload_n 0, 1, 0, 0, 0) := by decide +kernel
theorem qcod_1 : xe_look (xc 137) 1 = some (.getfield 16, 3, 11, 2, 983) := by decide +kernel
theorem qcod_4 : xe_look (xc 137) 4 = some (.iload_n 1, 1, 0, 0, 0) := by decide +kernel
theorem qcod_5 : xe_look (xc 137) 5 = some (.invokevirtual 107, 3, 0, 84, 984) := by decide +kernel
theorem qcod_8 : xe_look (xc 137) 8 = some (.astore 5, 2, 0, 0, 0) := by decide +kernel
theorem qcpu_0 : xe_look (xc 139) 0 = some (.aload_n 0, 1, 0, 0, 0) := by decide +kernel
theorem qcpu_1 : xe_look (xc 139) 1 = some (.getfield 16, 3, 11, 2, 983) := by decide +kernel
theorem qcpu_4 : xe_look (xc 139) 4 = some (.iload_n 1, 1, 0, 0, 0) := by decide +kernel
theorem qcpu_5 : xe_look (xc 139) 5 = some (.invokevirtual 107, 3, 0, 84, 984) := by decide +kernel
theorem qcpu_8 : xe_look (xc 139) 8 = some (.astore_n 3, 1, 0, 0, 0) := by decide +kernel
theorem qcsu_0 : xe_look (xc 150) 0 = some (.aload_n 0, 1, 0, 0, 0) := by decide +kernel
theorem qcsu_1 : xe_look (xc 150) 1 = some (.getfield 16, 3, 11, 2, 983) := by decide +kernel
theorem qcsu_4 : xe_look (xc 150) 4 = some (.iload_n 1, 1, 0, 0, 0) := by decide +kernel
theorem qcsu_5 : xe_look (xc 150) 5 = some (.invokevirtual 107, 3, 0, 84, 984) := by decide +kernel
theorem qcsu_8 : xe_look (xc 150) 8 = some (.astore_n 3, 1, 0, 0, 0) := by decide +kernel
theorem er_0 : eL[0]? = some (0, 11) := by decide +kernel
theorem cg_0_2 : (eG (cn 0 + 2)).2.2 = [3] := by decide +kernel
theorem cr_0_2 {d i : Nat} {lv : List (Nat × pv)} {r : List pv} {g : pH} (hG : g_I eG g) : px_push eL d none (.getfield i) 11 2 lv (pvR 0 :: r) g = some (pvR 2 :: r) := pget er_0 (gI_o (r := 2) hG er_0 (Nat.le_of_ble_eq_true rfl) (y := 2) rfl cg_0_2)
theorem gx_0_1 : eG (cn 0 + 1) = (0, 260, []) := by decide +kernel
theorem cb_0_1 {g : pH} (hG : g_I eG g) : 0 ≤ cF g 0 1 ∧ cF g 0 1 ≤ 260 := cb_i hG er_0 (Nat.le_of_ble_eq_true rfl) rfl gx_0_1
theorem ok_oI {a lo hi : Int} (h : lo ≤ a ∧ a ≤ hi) (h0 : -2147483648 ≤ lo) (h1 : hi ≤ 2147483647) : ok_v (cv (oI a)) (lo, hi, []) := by
  have e : cv (oI a) = a := oT (by omega) (by omega)
  rw [e]
  exact ⟨h.1, h.2, Or.inl rfl⟩
theorem cv_oI {a : Int} (h : -2147483648 ≤ a ∧ a ≤ 2147483647) : cv (oI a) = a := oT h.1 h.2
theorem ok_nul : ok_v (cv (.inr (.inr none))) (0, 100000, [0]) := ⟨by decide, by decide, Or.inr (List.mem_singleton.mpr rfl)⟩
theorem ok_sl4 {m : Nat} (h : m < 32) : ok_v (cv (pvR (4 + 2 * m))) (0, 100000, [5, 7, 9, 11, 13, 15, 17, 19, 21, 23, 25, 27, 29, 31, 33, 35, 37, 39, 41, 43, 45, 47, 49, 51, 53, 55, 57, 59, 61, 63, 65, 67]) := by
  have : ∀ m, m < 32 → (((4 + 2 * m : Nat) : Int) + 1).toNat ∈ [5, 7, 9, 11, 13, 15, 17, 19, 21, 23, 25, 27, 29, 31, 33, 35, 37, 39, 41, 43, 45, 47, 49, 51, 53, 55, 57, 59, 61, 63, 65, 67] := by decide
  exact ⟨by show (0 : Int) ≤ ((4 + 2 * m : Nat) : Int) + 1; omega, by show ((4 + 2 * m : Nat) : Int) + 1 ≤ 100000; omega, Or.inr (this m h)⟩
theorem ok_s4 {m : Nat} (h : m < 32) : ok_v (cv (pvR (4 + 2 * m))) (0, 100000, [5 + 2 * m]) := ⟨by show (0 : Int) ≤ ((4 + 2 * m : Nat) : Int) + 1; omega, by show ((4 + 2 * m : Nat) : Int) + 1 ≤ 100000; omega, Or.inr (List.mem_singleton.mpr (by show (((4 + 2 * m : Nat) : Int) + 1).toNat = _; omega))⟩
theorem hc_i {h : pH} {k x y : Nat} (hk : eL[k]? = some (0, x)) (hy : y < pnf x) (ht : xk_ty x y = .int) : h_c h k y 0 = some (.inl (h.1 k y)) := by
  rw [h_c_at hk rfl hy, pFi ht]
theorem hc_z {h : pH} {k x y : Nat} (hk : eL[k]? = some (0, x)) (hy : y < pnf x) (ht : xk_ty x y = .boolean) : h_c h k y 0 = some (.inl (h.1 k y)) := by
  rw [h_c_at hk rfl hy, pFz ht]
theorem po_i {ρ : List Int} {o1 : Option pv} {o2 : pH} {e : eE} {F : List eSF} {C : List eT} (h : ∃ p ∈ [((some (0, e), F, C) : eP)], ∃ zs, m_P p ρ o1 o2 zs) : ∃ z : Int32, o1 = some (.inl z) ∧ ok_v z.toInt e ∧ ∃ ys, m_F o2 F ys := by
  obtain ⟨p, hp, zs, hz⟩ := h
  obtain rfl := List.mem_singleton.mp hp
  obtain ⟨⟨v, x, ys, e1, ⟨e2, e3, e4⟩, -, e6⟩, -⟩ := hz
  obtain ⟨z, rfl⟩ := ct_0 e2
  subst e3
  exact ⟨z, e1, e4, ys, e6⟩
theorem po_l {ρ : List Int} {o1 : Option pv} {o2 : pH} {e : eE} {F : List eSF} {C : List eT} (h : ∃ p ∈ [((some (1, e), F, C) : eP)], ∃ zs, m_P p ρ o1 o2 zs) : ∃ z : Int64, o1 = some (.inr (.inl z)) ∧ ∃ ys, m_F o2 F ys := by
  obtain ⟨p, hp, zs, hz⟩ := h
  obtain rfl := List.mem_singleton.mp hp
  obtain ⟨⟨v, x, ys, e1, ⟨e2, e3, e4⟩, -, e6⟩, -⟩ := hz
  obtain ⟨z, rfl⟩ := ct_1 e2
  exact ⟨z, e1, ys, e6⟩
theorem po_c {ρ : List Int} {o1 : Option pv} {o2 : pH} {c : Int} {F : List eSF} {C : List eT} (h : ∃ p ∈ [((some (0, (c, c, [])), F, C) : eP)], ∃ zs, m_P p ρ o1 o2 zs) : o1 = some (oI c) ∧ ∃ ys, m_F o2 F ys := by
  obtain ⟨z, h1, h2, h3⟩ := po_i h
  refine ⟨?_, h3⟩
  rw [h1, oI_r]
  have q1 : c ≤ z.toInt := h2.1
  have q2 : z.toInt ≤ c := h2.2.1
  rw [show z.toInt = c by omega]
theorem po_n {ρ : List Int} {o1 : Option pv} {o2 : pH} {F : List eSF} {C : List eT} (h : ∃ p ∈ [((none, F, C) : eP)], ∃ zs, m_P p ρ o1 o2 zs) : o1 = none ∧ ∃ ys, m_F o2 F ys := by
  obtain ⟨p, hp, zs, hz⟩ := h
  obtain rfl := List.mem_singleton.mp hp
  obtain ⟨⟨e1, ys, -, e6⟩, -⟩ := hz
  exact ⟨e1, ys, e6⟩
theorem fa_i {h : pH} {k x y : Nat} {c : Int} (hk : eL[k]? = some (0, x)) (hy : y < pnf x) (ht : xk_ty x y = .int) {F : List eSF} {ys : List Int} (hF : m_F h ((k, y, 0, (c, c, [])) :: F) ys) : cF h k y = c := by
  match ys, hF with
  | _ :: _, hF =>
    obtain ⟨⟨v, h1, h2, h3, h4⟩, -⟩ := hF
    rw [hc_i hk hy ht] at h1
    cases h1
    subst h3
    have q1 : c ≤ cF h k y := h4.1
    have q2 : cF h k y ≤ c := h4.2.1
    omega
theorem fa_z {h : pH} {k x y : Nat} {c : Int} (hk : eL[k]? = some (0, x)) (hy : y < pnf x) (ht : xk_ty x y = .boolean) {F : List eSF} {ys : List Int} (hF : m_F h ((k, y, 0, (c, c, [])) :: F) ys) : cF h k y = c := by
  match ys, hF with
  | _ :: _, hF =>
    obtain ⟨⟨v, h1, h2, h3, h4⟩, -⟩ := hF
    rw [hc_z hk hy ht] at h1
    cases h1
    subst h3
    have q1 : c ≤ cF h k y := h4.1
    have q2 : cF h k y ≤ c := h4.2.1
    omega
theorem f_M_0 {W : Nat} {h0 h : pH} (a : f_M 0 h0 h) : f_M W h0 h := ⟨fun k y _ => a.1 k y (Nat.zero_testBit _), fun k _ => a.2 k (Nat.zero_testBit _)⟩
theorem f_M_w {W V : Nat} {h0 h : pH} (hV : V &&& W = V) (a : f_M V h0 h) : f_M W h0 h := f_M_tr hV (f_M_rf _ _) a
theorem cF_M {V : Nat} {h h' : pH} (hM : f_M V h h') {k y : Nat} (hy : V.testBit (cn k + y) = false) : cF h' k y = cF h k y := congrArg Int32.toInt (hM.1 k y hy).1
theorem cF_M0 {h h' : pH} (hM : f_M 0 h h') (k y : Nat) : cF h' k y = cF h k y := cF_M hM (Nat.zero_testBit _)
def kcpu_n : eK := (139, (2, [(0, 2, (0, 100000, [1])), (1, 0, ((-2147483648), 2147483647, [])), (2, 0, ((-2147483648), 2147483647, [])), (3, 2, (0, 100000, [0]))], [], []), (0, []), 0, [(some (0, (0, 0, [])), [], [])])
theorem ecpu_n : ex_mid eG eKT eDX 4000 kcpu_n [] 9 = true := by decide +kernel
def kcpu_1 : eK := (139, (2, [(0, 2, (0, 100000, [1])), (1, 0, ((-2147483648), 2147483647, [])), (2, 0, ((-2147483648), (-1), [])), (3, 2, (0, 100000, [5, 7, 9, 11, 13, 15, 17, 19, 21, 23, 25, 27, 29, 31, 33, 35, 37, 39, 41, 43, 45, 47, 49, 51, 53, 55, 57, 59, 61, 63, 65, 67]))], [], []), (0, []), 0, [(some (0, (0, 0, [])), [], [])])
theorem ecpu_1 : ex_mid eG eKT eDX 4000 kcpu_1 [] 9 = true := by decide +kernel
def kcpu_2 : eK := (139, (2, [(0, 2, (0, 100000, [1])), (1, 0, ((-2147483648), 2147483647, [])), (2, 0, (8, 2147483647, [])), (3, 2, (0, 100000, [5, 7, 9, 11, 13, 15, 17, 19, 21, 23, 25, 27, 29, 31, 33, 35, 37, 39, 41, 43, 45, 47, 49, 51, 53, 55, 57, 59, 61, 63, 65, 67]))], [], []), (0, []), 0, [(some (0, (0, 0, [])), [], [])])
theorem ecpu_2 : ex_mid eG eKT eDX 4000 kcpu_2 [] 9 = true := by decide +kernel
def kcpu_a : eK := (139, (2, [(0, 2, (0, 100000, [1])), (1, 0, ((-2147483648), 2147483647, [])), (2, 0, (0, 7, [])), (3, 2, (0, 100000, [5, 7, 9, 11, 13, 15, 17, 19, 21, 23, 25, 27, 29, 31, 33, 35, 37, 39, 41, 43, 45, 47, 49, 51, 53, 55, 57, 59, 61, 63, 65, 67]))], [], []), (0, []), 4812164899413102004430757217897363679174369720379268034678589814881011452307915316489285082423658480801981399040, [(some (0, (1, 1, [])), [], [])])
theorem ecpu_a : ex_mid eG eKT eDX 4000 kcpu_a [] 9 = true := by decide +kernel
def kcda_n : eK := (116, (2, [(0, 2, (0, 100000, [1])), (1, 0, ((-2147483648), 2147483647, [])), (2, 0, ((-2147483648), 2147483647, [])), (3, 2, (0, 100000, [0]))], [], []), (0, []), 0, [(some (0, (0, 0, [])), [], [])])
theorem ecda_n : ex_mid eG eKT eDX 4000 kcda_n [] 9 = true := by decide +kernel
def kcda_1 : eK := (116, (2, [(0, 2, (0, 100000, [1])), (1, 0, ((-2147483648), 2147483647, [])), (2, 0, ((-2147483648), (-1), [])), (3, 2, (0, 100000, [5, 7, 9, 11, 13, 15, 17, 19, 21, 23, 25, 27, 29, 31, 33, 35, 37, 39, 41, 43, 45, 47, 49, 51, 53, 55, 57, 59, 61, 63, 65, 67]))], [], []), (0, []), 0, [(some (0, (0, 0, [])), [], [])])
theorem ecda_1 : ex_mid eG eKT eDX 4000 kcda_1 [] 9 = true := by decide +kernel
def kcda_2 : eK := (116, (2, [(0, 2, (0, 100000, [1])), (1, 0, ((-2147483648), 2147483647, [])), (2, 0, (100, 2147483647, [])), (3, 2, (0, 100000, [5, 7, 9, 11, 13, 15, 17, 19, 21, 23, 25, 27, 29, 31, 33, 35, 37, 39, 41, 43, 45, 47, 49, 51, 53, 55, 57, 59, 61, 63, 65, 67]))], [], []), (0, []), 0, [(some (0, (0, 0, [])), [], [])])
theorem ecda_2 : ex_mid eG eKT eDX 4000 kcda_2 [] 9 = true := by decide +kernel
def kcda_a : eK := (116, (2, [(0, 2, (0, 100000, [1])), (1, 0, ((-2147483648), 2147483647, [])), (2, 0, (0, 99, [])), (3, 2, (0, 100000, [5, 7, 9, 11, 13, 15, 17, 19, 21, 23, 25, 27, 29, 31, 33, 35, 37, 39, 41, 43, 45, 47, 49, 51, 53, 55, 57, 59, 61, 63, 65, 67]))], [], []), (0, []), 2406082449706551002215378608948681839587184860189634017339294907440505726153957658244642541211829240400990699520, [(some (0, (1, 1, [])), [], [])])
theorem ecda_a : ex_mid eG eKT eDX 4000 kcda_a [] 9 = true := by decide +kernel
def kcsu_n : eK := (150, (2, [(0, 2, (0, 100000, [1])), (1, 0, ((-2147483648), 2147483647, [])), (2, 0, ((-2147483648), 2147483647, [])), (3, 2, (0, 100000, [0]))], [], []), (0, []), 0, [(some (0, (0, 0, [])), [], [])])
theorem ecsu_n : ex_mid eG eKT eDX 4000 kcsu_n [] 9 = true := by decide +kernel
def kcsu_1 : eK := (150, (2, [(0, 2, (0, 100000, [1])), (1, 0, ((-2147483648), 2147483647, [])), (2, 0, ((-2147483648), (-1), [])), (3, 2, (0, 100000, [5, 7, 9, 11, 13, 15, 17, 19, 21, 23, 25, 27, 29, 31, 33, 35, 37, 39, 41, 43, 45, 47, 49, 51, 53, 55, 57, 59, 61, 63, 65, 67]))], [], []), (0, []), 0, [(some (0, (0, 0, [])), [], [])])
theorem ecsu_1 : ex_mid eG eKT eDX 4000 kcsu_1 [] 9 = true := by decide +kernel
def kcsu_2 : eK := (150, (2, [(0, 2, (0, 100000, [1])), (1, 0, ((-2147483648), 2147483647, [])), (2, 0, (4, 2147483647, [])), (3, 2, (0, 100000, [5, 7, 9, 11, 13, 15, 17, 19, 21, 23, 25, 27, 29, 31, 33, 35, 37, 39, 41, 43, 45, 47, 49, 51, 53, 55, 57, 59, 61, 63, 65, 67]))], [], []), (0, []), 0, [(some (0, (0, 0, [])), [], [])])
theorem ecsu_2 : ex_mid eG eKT eDX 4000 kcsu_2 [] 9 = true := by decide +kernel
def kcsu_a : eK := (150, (2, [(0, 2, (0, 100000, [1])), (1, 0, ((-2147483648), 2147483647, [])), (2, 0, (0, 3, [])), (3, 2, (0, 100000, [5, 7, 9, 11, 13, 15, 17, 19, 21, 23, 25, 27, 29, 31, 33, 35, 37, 39, 41, 43, 45, 47, 49, 51, 53, 55, 57, 59, 61, 63, 65, 67]))], [], []), (0, []), 19248659597652408017723028871589454716697478881517072138714359259524045809231661265957140329694633923207925596160, [(some (0, (1, 1, [])), [], [])])
theorem ecsu_a : ex_mid eG eKT eDX 4000 kcsu_a [] 9 = true := by decide +kernel
def kcod_n : eK := (137, (4, [(0, 2, (0, 100000, [1])), (1, 0, ((-2147483648), 2147483647, [])), (2, 0, ((-2147483648), 2147483647, [])), (3, 0, ((-2147483648), 2147483647, [])), (4, 0, ((-2147483648), 2147483647, [])), (5, 2, (0, 100000, [0]))], [], []), (0, []), 0, [(some (0, ((-1), (-1), [])), [], [])])
theorem ecod_n : ex_mid eG eKT eDX 4000 kcod_n [] 10 = true := by decide +kernel
def kcod_1 : eK := (137, (4, [(0, 2, (0, 100000, [1])), (1, 0, ((-2147483648), 2147483647, [])), (2, 0, ((-2147483648), (-1), [])), (3, 0, ((-2147483648), 2147483647, [])), (4, 0, ((-2147483648), 2147483647, [])), (5, 2, (0, 100000, [5, 7, 9, 11, 13, 15, 17, 19, 21, 23, 25, 27, 29, 31, 33, 35, 37, 39, 41, 43, 45, 47, 49, 51, 53, 55, 57, 59, 61, 63, 65, 67]))], [], []), (0, []), 0, [(some (0, ((-1), (-1), [])), [], [])])
theorem ecod_1 : ex_mid eG eKT eDX 4000 kcod_1 [] 10 = true := by decide +kernel
def kcod_2 : eK := (137, (4, [(0, 2, (0, 100000, [1])), (1, 0, ((-2147483648), 2147483647, [])), (2, 0, (8, 2147483647, [])), (3, 0, ((-2147483648), 2147483647, [])), (4, 0, ((-2147483648), 2147483647, [])), (5, 2, (0, 100000, [5, 7, 9, 11, 13, 15, 17, 19, 21, 23, 25, 27, 29, 31, 33, 35, 37, 39, 41, 43, 45, 47, 49, 51, 53, 55, 57, 59, 61, 63, 65, 67]))], [], []), (0, []), 0, [(some (0, ((-1), (-1), [])), [], [])])
theorem ecod_2 : ex_mid eG eKT eDX 4000 kcod_2 [] 10 = true := by decide +kernel
def kcod_3 : eK := (137, (4, [(0, 2, (0, 100000, [1])), (1, 0, ((-2147483648), 2147483647, [])), (2, 0, ((-2147483648), 2147483647, [])), (3, 0, ((-2147483648), (-1), [])), (4, 0, ((-2147483648), 2147483647, [])), (5, 2, (0, 100000, [5, 7, 9, 11, 13, 15, 17, 19, 21, 23, 25, 27, 29, 31, 33, 35, 37, 39, 41, 43, 45, 47, 49, 51, 53, 55, 57, 59, 61, 63, 65, 67]))], [], []), (0, []), 0, [(some (0, ((-1), (-1), [])), [], [])])
theorem ecod_3 : ex_mid eG eKT eDX 4000 kcod_3 [] 10 = true := by decide +kernel
def kcod_4 : eK := (137, (4, [(0, 2, (0, 100000, [1])), (1, 0, ((-2147483648), 2147483647, [])), (2, 0, ((-2147483648), 2147483647, [])), (3, 0, (9, 2147483647, [])), (4, 0, ((-2147483648), 2147483647, [])), (5, 2, (0, 100000, [5, 7, 9, 11, 13, 15, 17, 19, 21, 23, 25, 27, 29, 31, 33, 35, 37, 39, 41, 43, 45, 47, 49, 51, 53, 55, 57, 59, 61, 63, 65, 67]))], [], []), (0, []), 0, [(some (0, ((-1), (-1), [])), [], [])])
theorem ecod_4 : ex_mid eG eKT eDX 4000 kcod_4 [] 10 = true := by decide +kernel
def kcod_5 : eK := (137, (4, [(0, 2, (0, 100000, [1])), (1, 0, ((-2147483648), 2147483647, [])), (2, 0, ((-2147483648), 2147483647, [])), (3, 0, ((-2147483648), 2147483647, [])), (4, 0, ((-2147483648), (-1), [])), (5, 2, (0, 100000, [5, 7, 9, 11, 13, 15, 17, 19, 21, 23, 25, 27, 29, 31, 33, 35, 37, 39, 41, 43, 45, 47, 49, 51, 53, 55, 57, 59, 61, 63, 65, 67]))], [], []), (0, []), 0, [(some (0, ((-1), (-1), [])), [], [])])
theorem ecod_5 : ex_mid eG eKT eDX 4000 kcod_5 [] 10 = true := by decide +kernel
def kcod_6 : eK := (137, (4, [(0, 2, (0, 100000, [1])), (1, 0, ((-2147483648), 2147483647, [])), (2, 0, ((-2147483648), 2147483647, [])), (3, 0, ((-2147483648), 2147483647, [])), (4, 0, (2, 2147483647, [])), (5, 2, (0, 100000, [5, 7, 9, 11, 13, 15, 17, 19, 21, 23, 25, 27, 29, 31, 33, 35, 37, 39, 41, 43, 45, 47, 49, 51, 53, 55, 57, 59, 61, 63, 65, 67]))], [], []), (0, []), 0, [(some (0, ((-1), (-1), [])), [], [])])
theorem ecod_6 : ex_mid eG eKT eDX 4000 kcod_6 [] 10 = true := by decide +kernel
def kcod_7 : eK := (137, (4, [(0, 2, (0, 100000, [1])), (1, 0, ((-2147483648), 2147483647, [])), (2, 0, (0, 7, [])), (3, 0, (0, 8, [])), (4, 0, (0, 1, [])), (5, 2, (0, 100000, [5, 7, 9, 11, 13, 15, 17, 19, 21, 23, 25, 27, 29, 31, 33, 35, 37, 39, 41, 43, 45, 47, 49, 51, 53, 55, 57, 59, 61, 63, 65, 67]))], [(0, 1, 0, (0, 260, []))], [(1, [(4, (-3)), (7, 1)])]), (0, []), 0, [(some (0, ((-1), (-1), [])), [], [])])
theorem ecod_7 : ex_mid eG eKT eDX 4000 kcod_7 [] 10 = true := by decide +kernel
def kcod_a : eK := (137, (4, [(0, 2, (0, 100000, [1])), (1, 0, ((-2147483648), 2147483647, [])), (2, 0, (0, 7, [])), (3, 0, (0, 8, [])), (4, 0, (0, 1, [])), (5, 2, (0, 100000, [5, 7, 9, 11, 13, 15, 17, 19, 21, 23, 25, 27, 29, 31, 33, 35, 37, 39, 41, 43, 45, 47, 49, 51, 53, 55, 57, 59, 61, 63, 65, 67]))], [(0, 1, 0, (0, 260, []))], [(0, [(4, 3), (7, (-1))])]), (0, []), 1311012070453712419950534765461505738029807186679899300480529022929566353245146459256789896872915698533940650909456299339866412442279735157083494801860045630414013714755483940321578256744621994958175924232839554060526655832830702752510065248305154, [(some (0, ((-2147483648), 2147483647, [])), [(0, 1, 0, (0, 0, []))], [])])
theorem ecod_a : ex_mid eG eKT eDX 4000 kcod_a kc_28 10 = true := by decide +kernel
def kcch_n : eK := (110, (2, [(0, 2, (0, 100000, [1])), (1, 0, ((-2147483648), 2147483647, [])), (2, 0, ((-2147483648), 2147483647, [])), (3, 2, (0, 100000, [0]))], [], []), (0, []), 0, [(some (0, ((-2), (-2), [])), [], [])])
theorem ecch_n : ex_mid eG eKT eDX 4000 kcch_n [] 9 = true := by decide +kernel
def kcch_1 : eK := (110, (2, [(0, 2, (0, 100000, [1])), (1, 0, ((-2147483648), 2147483647, [])), (2, 0, ((-2147483648), (-1), [])), (3, 2, (0, 100000, [5, 7, 9, 11, 13, 15, 17, 19, 21, 23, 25, 27, 29, 31, 33, 35, 37, 39, 41, 43, 45, 47, 49, 51, 53, 55, 57, 59, 61, 63, 65, 67]))], [], []), (0, []), 0, [(some (0, ((-2), (-2), [])), [], [])])
theorem ecch_1 : ex_mid eG eKT eDX 4000 kcch_1 [] 9 = true := by decide +kernel
def kcch_2 : eK := (110, (2, [(0, 2, (0, 100000, [1])), (1, 0, ((-2147483648), 2147483647, [])), (2, 0, (26, 2147483647, [])), (3, 2, (0, 100000, [5, 7, 9, 11, 13, 15, 17, 19, 21, 23, 25, 27, 29, 31, 33, 35, 37, 39, 41, 43, 45, 47, 49, 51, 53, 55, 57, 59, 61, 63, 65, 67]))], [], []), (0, []), 0, [(some (0, ((-2), (-2), [])), [], [])])
theorem ecch_2 : ex_mid eG eKT eDX 4000 kcch_2 [] 9 = true := by decide +kernel
def kcch_3 : eK := (110, (2, [(0, 2, (0, 100000, [1])), (1, 0, ((-2147483648), 2147483647, [])), (2, 0, (0, 25, [])), (3, 2, (0, 100000, [5, 7, 9, 11, 13, 15, 17, 19, 21, 23, 25, 27, 29, 31, 33, 35, 37, 39, 41, 43, 45, 47, 49, 51, 53, 55, 57, 59, 61, 63, 65, 67]))], [(0, 1, 0, (0, 260, []))], [(1, [(3, (-1)), (5, 1)])]), (0, []), 0, [(some (0, ((-2), (-2), [])), [], [])])
theorem ecch_3 : ex_mid eG eKT eDX 4000 kcch_3 [] 9 = true := by decide +kernel
def kcch_a : eK := (110, (2, [(0, 2, (0, 100000, [1])), (1, 0, ((-2147483648), 2147483647, [])), (2, 0, (0, 25, [])), (3, 2, (0, 100000, [5, 7, 9, 11, 13, 15, 17, 19, 21, 23, 25, 27, 29, 31, 33, 35, 37, 39, 41, 43, 45, 47, 49, 51, 53, 55, 57, 59, 61, 63, 65, 67]))], [(0, 1, 0, (0, 260, []))], [(0, [(3, 1), (5, (-1))])]), (0, []), 2, [(some (0, ((-2147483648), 2147483647, [])), [(0, 1, 0, (0, 0, []))], [])])
theorem ecch_a : ex_mid eG eKT eDX 4000 kcch_a kc_61 9 = true := by decide +kernel
def kcty_1 : eK := (157, (18, [(0, 2, (0, 100000, [1])), (1, 0, ((-2147483648), 0, []))], [], []), (0, []), 0, [(some (0, ((-1), (-1), [])), [], [])])
theorem ecty_1 : ex_mid eG eKT eDX 4000 kcty_1 [] 0 = true := by decide +kernel
def kcty_2 : eK := (157, (18, [(0, 2, (0, 100000, [1])), (1, 0, (121, 2147483647, []))], [], []), (0, []), 0, [(some (0, ((-1), (-1), [])), [], [])])
theorem ecty_2 : ex_mid eG eKT eDX 4000 kcty_2 [] 0 = true := by decide +kernel
def kcty_3 : eK := (157, (18, [(0, 2, (0, 100000, [1])), (1, 0, (1, 120, []))], [(0, 1, 0, (0, 260, []))], [(1, [(2, (-1)), (3, 1)])]), (0, []), 0, [(some (0, ((-1), (-1), [])), [], [])])
theorem ecty_3 : ex_mid eG eKT eDX 4000 kcty_3 [] 0 = true := by decide +kernel
def kcty_a : eK := (157, (18, [(0, 2, (0, 100000, [1])), (1, 0, (1, 120, []))], [(0, 1, 0, (0, 260, []))], [(0, [(2, 1), (3, (-1))])]), (0, []), 98572769813498918093404346115115298957599317664901510615055280570607156972517069962586318973050077549246982713871751812082472117332196066869279083470778743111832856172823806112554734190062504383554003081619794855769579424851274236002, [(some (0, ((-2147483648), 2147483647, [])), [(0, 1, 0, (0, 0, []))], [])])
theorem ecty_a : ex_mid eG eKT eDX 4000 kcty_a kc_20 0 = true := by decide +kernel
def kclw_1 : eK := (129, (35, [(0, 2, (0, 100000, [1])), (1, 0, ((-2147483648), 0, []))], [], []), (0, []), 0, [(some (0, ((-1), (-1), [])), [], [])])
theorem eclw_1 : ex_mid eG eKT eDX 4000 kclw_1 [] 0 = true := by decide +kernel
def kclw_2 : eK := (129, (35, [(0, 2, (0, 100000, [1])), (1, 0, (241, 2147483647, []))], [], []), (0, []), 0, [(some (0, ((-1), (-1), [])), [], [])])
theorem eclw_2 : ex_mid eG eKT eDX 4000 kclw_2 [] 0 = true := by decide +kernel
def kclw_3 : eK := (129, (35, [(0, 2, (0, 100000, [1])), (1, 0, (1, 240, []))], [(0, 1, 0, (0, 260, []))], [(1, [(2, (-1)), (3, 1)])]), (0, []), 0, [(some (0, ((-1), (-1), [])), [], [])])
theorem eclw_3 : ex_mid eG eKT eDX 4000 kclw_3 [] 0 = true := by decide +kernel
def kclw_a : eK := (129, (35, [(0, 2, (0, 100000, [1])), (1, 0, (1, 240, []))], [(0, 1, 0, (0, 260, []))], [(0, [(2, 1), (3, (-1))])]), (0, []), 430189861903982877032589576604881358216188852940425056277445177235955540549986262448695140142381869359457528693438100213019016918926432440420528744386749368297035778202711344294229550815264265794803286418367538531528107293607931876100808481177602, [(some (0, ((-2147483648), 2147483647, [])), [(0, 1, 0, (0, 0, []))], [])])
theorem eclw_a : ex_mid eG eKT eDX 4000 kclw_a kc_23 0 = true := by decide +kernel
def kcsp_1 : eK := (149, (4, [(0, 2, (0, 100000, [1])), (1, 0, ((-2147483648), 1, [])), (2, 0, ((-2147483648), 2147483647, []))], [], []), (0, []), 0, [(some (1, ((-1), (-1), [])), [], [])])
theorem ecsp_1 : ex_mid eG eKT eDX 4000 kcsp_1 [] 0 = true := by decide +kernel
def kcsp_2 : eK := (149, (4, [(0, 2, (0, 100000, [1])), (1, 0, (13, 2147483647, [])), (2, 0, ((-2147483648), 2147483647, []))], [], []), (0, []), 0, [(some (1, ((-1), (-1), [])), [], [])])
theorem ecsp_2 : ex_mid eG eKT eDX 4000 kcsp_2 [] 0 = true := by decide +kernel
def kcsp_3 : eK := (149, (4, [(0, 2, (0, 100000, [1])), (1, 0, (2, 12, [])), (2, 0, ((-2147483648), 2147483647, []))], [(0, 1, 0, (0, 260, []))], [(1, [(2, (-1)), (4, 1)])]), (0, []), 0, [(some (1, ((-1), (-1), [])), [], [])])
theorem ecsp_3 : ex_mid eG eKT eDX 4000 kcsp_3 [] 0 = true := by decide +kernel
def kcsp_a : eK := (149, (4, [(0, 2, (0, 100000, [1])), (1, 0, (2, 12, [])), (2, 0, ((-2147483648), 2147483647, []))], [(0, 1, 0, (0, 260, []))], [(0, [(2, 1), (4, (-1))])]), (0, []), 7384033192004520520588592093733520604456903771754801302506621301583367798677270584815091195634082090296357002677155427170022373770222903964592008397647491999967393494168127411744595486790168748578140740695188963759343913628077644536886949518022280763663028584450, [(some (1, ((-9223372036854775808), 9223372036854775807, [])), [(0, 1, 0, (0, 0, []))], [])])
theorem ecsp_a : ex_mid eG eKT eDX 4000 kcsp_a kc_42 0 = true := by decide +kernel
def kcsy_1 : eK := (142, (4, [(0, 2, (0, 100000, [1])), (1, 0, ((-2147483648), 1, [])), (2, 0, ((-2147483648), 2147483647, [])), (3, 0, ((-2147483648), 2147483647, [])), (4, 0, ((-2147483648), 2147483647, []))], [], []), (0, []), 0, [(some (1, ((-1), (-1), [])), [], [])])
theorem ecsy_1 : ex_mid eG eKT eDX 4000 kcsy_1 [] 0 = true := by decide +kernel
def kcsy_2 : eK := (142, (4, [(0, 2, (0, 100000, [1])), (1, 0, (13, 2147483647, [])), (2, 0, ((-2147483648), 2147483647, [])), (3, 0, ((-2147483648), 2147483647, [])), (4, 0, ((-2147483648), 2147483647, []))], [], []), (0, []), 0, [(some (1, ((-1), (-1), [])), [], [])])
theorem ecsy_2 : ex_mid eG eKT eDX 4000 kcsy_2 [] 0 = true := by decide +kernel
def kcsy_3 : eK := (142, (4, [(0, 2, (0, 100000, [1])), (1, 0, ((-2147483648), 2147483647, [])), (2, 0, ((-2147483648), 2147483647, [])), (3, 0, ((-2147483648), 2147483647, [])), (4, 0, ((-2147483648), (-1), []))], [], []), (0, []), 0, [(some (1, ((-1), (-1), [])), [], [])])
theorem ecsy_3 : ex_mid eG eKT eDX 4000 kcsy_3 [] 0 = true := by decide +kernel
def kcsy_4 : eK := (142, (4, [(0, 2, (0, 100000, [1])), (1, 0, ((-2147483648), 2147483647, [])), (2, 0, ((-2147483648), 2147483647, [])), (3, 0, ((-2147483648), 2147483647, [])), (4, 0, (4, 2147483647, []))], [], []), (0, []), 0, [(some (1, ((-1), (-1), [])), [], [])])
theorem ecsy_4 : ex_mid eG eKT eDX 4000 kcsy_4 [] 0 = true := by decide +kernel
def kcsy_5 : eK := (142, (4, [(0, 2, (0, 100000, [1])), (1, 0, (2, 12, [])), (2, 0, ((-2147483648), 2147483647, [])), (3, 0, ((-2147483648), 2147483647, [])), (4, 0, (0, 3, []))], [(0, 1, 0, (0, 260, []))], [(1, [(2, (-1)), (6, 1)])]), (0, []), 0, [(some (1, ((-1), (-1), [])), [], [])])
theorem ecsy_5 : ex_mid eG eKT eDX 4000 kcsy_5 [] 0 = true := by decide +kernel
def kcsy_a : eK := (142, (4, [(0, 2, (0, 100000, [1])), (1, 0, (2, 12, [])), (2, 0, ((-2147483648), 2147483647, [])), (3, 0, ((-2147483648), 2147483647, [])), (4, 0, (0, 3, []))], [(0, 1, 0, (0, 260, []))], [(0, [(2, 1), (6, (-1))])]), (0, []), 31004002458385977071318329127560052319351290322750004141517748095215380917832394522798242424562754752768937292539615320731392094759967030460907634427056202256760541384577482918899239522131000705329365407004064176503070322402327314486706415379322209190323024822274, [(some (1, ((-9223372036854775808), 9223372036854775807, [])), [(0, 1, 0, (0, 0, []))], [])])
theorem ecsy_a : ex_mid eG eKT eDX 4000 kcsy_a kc_43 0 = true := by decide +kernel
set_option maxHeartbeats 2000000 in
theorem cpu_run {d : Nat} (hd : 2 ≤ d) (hd2 : d ≤ 1000000) {g : pH} (hG : g_I eG g) (hx : xL g) (hS : rS g) {i w : Int} (hi : -2147483648 ≤ i ∧ i ≤ 2147483647) (hw : -2147483648 ≤ w ∧ w ≤ 2147483647) {P : Option pv × pH → Prop} (hA : ∀ (g1 : pH), g_I eG g1 → xL g1 → f_M kcpu_a.2.2.2.1 g g1 → toC g i ∧ (0 ≤ w ∧ w ≤ 7) → P (some (oI 1), g1)) (hR : ∀ (g1 : pH), g_I eG g1 → xL g1 → f_M kcpu_a.2.2.2.1 g g1 → (∀ u v, cF g1 u v = cF g u v) → ¬ (toC g i ∧ (0 ≤ w ∧ w ≤ 7)) → P (some (oI 0), g1)) {lv : List (Nat × pv)} (l0 : px_lg lv 0 = some (pvR 0)) (l1 : px_lg lv 1 = some (oI i)) (l2 : px_lg lv 2 = some (oI w)) : t_X d 139 0 lv [] g P := by
  have hJ : J_ 0 g g := J_rf hG
  have hb := cb_0_1 hG
  refine t_0 qcpu_0 rfl (ld_a l0) ?_
  refine t_0 qcpu_1 rfl (cr_0_2 hJ.1) ?_
  refine t_0 qcpu_4 rfl (ld_i l1) ?_
  refine t_3 qcpu_5 rfl (ar := ([pvR 2, oI (i)], [])) (pcal_v1 rfl rfl er_2) ⟨by omega, Nat.le_of_ble_eq_true rfl, Nat.le_of_ble_eq_true rfl, rfl⟩ ?_
  refine td_run (by omega) hJ.1 hS (by omega) (fun m hm e1 c0 => ?_) (fun c0 => ?_) rfl rfl
  · show t_X d 139 8 lv [pvR (4 + 2 * m)] g P
    refine t_2 qcpu_8 rfl (w := (px_s1 lv 3 (pvR (4 + 2 * m)), [])) rfl ?_
    replace l0 : px_lg (px_s1 lv 3 (pvR (4 + 2 * m))) 0 = some (pvR 0) := s1_ne (by decide) (fun _ => rfl) l0
    replace l1 : px_lg (px_s1 lv 3 (pvR (4 + 2 * m))) 1 = some (oI (i)) := s1_ne (by decide) (fun _ => rfl) l1
    replace l2 : px_lg (px_s1 lv 3 (pvR (4 + 2 * m))) 2 = some (oI (w)) := s1_ne (by decide) (fun _ => rfl) l2
    have l3 : px_lg (px_s1 lv 3 (pvR (4 + 2 * m))) 3 = some (pvR (4 + 2 * m)) := s1_eq
    generalize px_s1 lv 3 (pvR (4 + 2 * m)) = lv1 at l0 l1 l2 l3 ⊢
    show t_X d 139 9 lv1 [] g P
    by_cases a0 : w < 0
    · refine mid_L (k := kcpu_1) ecpu_1 hG hx (xs := [cv (pvR 0), cv (oI i), cv (oI w), cv (pvR (4 + 2 * m))]) (ys := []) ⟨by show 2 ≤ _; omega, ⟨⟨pvR 0, l0, rfl, rfl, ok_0⟩, ⟨oI i, l1, rfl, rfl, ok_full32 _⟩, ⟨oI w, l2, rfl, rfl, ok_oI (by omega) (by decide) (by decide)⟩, ⟨pvR (4 + 2 * m), l3, rfl, rfl, ok_sl4 hm⟩, trivial⟩, trivial, fun c hc => absurd hc List.not_mem_nil⟩ (by omega) (fun o G1 X1 M1 P1 => ?_)
      obtain ⟨o1, o2⟩ := o
      obtain ⟨rfl, -⟩ := po_c P1
      exact hR _ G1 X1 (f_M_0 M1) (fun u v => cF_M0 M1 u v) (fun z => by have z1 := z.2; omega)
    · skip
      by_cases a1 : 7 < w
      · refine mid_L (k := kcpu_2) ecpu_2 hG hx (xs := [cv (pvR 0), cv (oI i), cv (oI w), cv (pvR (4 + 2 * m))]) (ys := []) ⟨by show 2 ≤ _; omega, ⟨⟨pvR 0, l0, rfl, rfl, ok_0⟩, ⟨oI i, l1, rfl, rfl, ok_full32 _⟩, ⟨oI w, l2, rfl, rfl, ok_oI (by omega) (by decide) (by decide)⟩, ⟨pvR (4 + 2 * m), l3, rfl, rfl, ok_sl4 hm⟩, trivial⟩, trivial, fun c hc => absurd hc List.not_mem_nil⟩ (by omega) (fun o G1 X1 M1 P1 => ?_)
        obtain ⟨o1, o2⟩ := o
        obtain ⟨rfl, -⟩ := po_c P1
        exact hR _ G1 X1 (f_M_0 M1) (fun u v => cF_M0 M1 u v) (fun z => by have z1 := z.2; omega)
      · skip
        refine mid_L (k := kcpu_a) ecpu_a hG hx (xs := [cv (pvR 0), cv (oI i), cv (oI w), cv (pvR (4 + 2 * m))]) (ys := []) ⟨by show 2 ≤ _; omega, ⟨⟨pvR 0, l0, rfl, rfl, ok_0⟩, ⟨oI i, l1, rfl, rfl, ok_full32 _⟩, ⟨oI w, l2, rfl, rfl, ok_oI (by omega) (by decide) (by decide)⟩, ⟨pvR (4 + 2 * m), l3, rfl, rfl, ok_sl4 hm⟩, trivial⟩, trivial, fun c hc => absurd hc List.not_mem_nil⟩ (by omega) (fun o G1 X1 M1 P1 => ?_)
        obtain ⟨o1, o2⟩ := o
        obtain ⟨rfl, ys, hF⟩ := po_c P1
        exact hA _ G1 X1 M1 ⟨⟨m, hm, e1, c0⟩, by omega⟩
  · show t_X d 139 8 lv [.inr (.inr none)] g P
    refine t_2 qcpu_8 rfl (w := (px_s1 lv 3 (.inr (.inr none)), [])) rfl ?_
    replace l0 : px_lg (px_s1 lv 3 (.inr (.inr none))) 0 = some (pvR 0) := s1_ne (by decide) (fun _ => rfl) l0
    replace l1 : px_lg (px_s1 lv 3 (.inr (.inr none))) 1 = some (oI (i)) := s1_ne (by decide) (fun _ => rfl) l1
    replace l2 : px_lg (px_s1 lv 3 (.inr (.inr none))) 2 = some (oI (w)) := s1_ne (by decide) (fun _ => rfl) l2
    have l3 : px_lg (px_s1 lv 3 (.inr (.inr none))) 3 = some (.inr (.inr none)) := s1_eq
    generalize px_s1 lv 3 (.inr (.inr none)) = lv2 at l0 l1 l2 l3 ⊢
    show t_X d 139 9 lv2 [] g P
    refine mid_L (k := kcpu_n) ecpu_n hG hx (xs := [cv (pvR 0), cv (oI i), cv (oI w), cv (.inr (.inr none))]) (ys := []) ⟨by show 2 ≤ _; omega, ⟨⟨pvR 0, l0, rfl, rfl, ok_0⟩, ⟨oI i, l1, rfl, rfl, ok_full32 _⟩, ⟨oI w, l2, rfl, rfl, ok_full32 _⟩, ⟨.inr (.inr none), l3, rfl, rfl, ok_nul⟩, trivial⟩, trivial, fun c hc => absurd hc List.not_mem_nil⟩ (by omega) (fun o G1 X1 M1 P1 => ?_)
    obtain ⟨o1, o2⟩ := o
    obtain ⟨rfl, -⟩ := po_c P1
    exact hR _ G1 X1 (f_M_0 M1) (fun u v => cF_M0 M1 u v) (fun z => c0 z.1)
set_option maxHeartbeats 2000000 in
theorem cda_run {d : Nat} (hd : 2 ≤ d) (hd2 : d ≤ 1000000) {g : pH} (hG : g_I eG g) (hx : xL g) (hS : rS g) {i w : Int} (hi : -2147483648 ≤ i ∧ i ≤ 2147483647) (hw : -2147483648 ≤ w ∧ w ≤ 2147483647) {P : Option pv × pH → Prop} (hA : ∀ (g1 : pH), g_I eG g1 → xL g1 → f_M kcda_a.2.2.2.1 g g1 → toC g i ∧ (0 ≤ w ∧ w ≤ 99) → P (some (oI 1), g1)) (hR : ∀ (g1 : pH), g_I eG g1 → xL g1 → f_M kcda_a.2.2.2.1 g g1 → (∀ u v, cF g1 u v = cF g u v) → ¬ (toC g i ∧ (0 ≤ w ∧ w ≤ 99)) → P (some (oI 0), g1)) {lv : List (Nat × pv)} (l0 : px_lg lv 0 = some (pvR 0)) (l1 : px_lg lv 1 = some (oI i)) (l2 : px_lg lv 2 = some (oI w)) : t_X d 116 0 lv [] g P := by
  have hJ : J_ 0 g g := J_rf hG
  have hb := cb_0_1 hG
  refine t_0 qcda_0 rfl (ld_a l0) ?_
  refine t_0 qcda_1 rfl (cr_0_2 hJ.1) ?_
  refine t_0 qcda_4 rfl (ld_i l1) ?_
  refine t_3 qcda_5 rfl (ar := ([pvR 2, oI (i)], [])) (pcal_v1 rfl rfl er_2) ⟨by omega, Nat.le_of_ble_eq_true rfl, Nat.le_of_ble_eq_true rfl, rfl⟩ ?_
  refine td_run (by omega) hJ.1 hS (by omega) (fun m hm e1 c0 => ?_) (fun c0 => ?_) rfl rfl
  · show t_X d 116 8 lv [pvR (4 + 2 * m)] g P
    refine t_2 qcda_8 rfl (w := (px_s1 lv 3 (pvR (4 + 2 * m)), [])) rfl ?_
    replace l0 : px_lg (px_s1 lv 3 (pvR (4 + 2 * m))) 0 = some (pvR 0) := s1_ne (by decide) (fun _ => rfl) l0
    replace l1 : px_lg (px_s1 lv 3 (pvR (4 + 2 * m))) 1 = some (oI (i)) := s1_ne (by decide) (fun _ => rfl) l1
    replace l2 : px_lg (px_s1 lv 3 (pvR (4 + 2 * m))) 2 = some (oI (w)) := s1_ne (by decide) (fun _ => rfl) l2
    have l3 : px_lg (px_s1 lv 3 (pvR (4 + 2 * m))) 3 = some (pvR (4 + 2 * m)) := s1_eq
    generalize px_s1 lv 3 (pvR (4 + 2 * m)) = lv1 at l0 l1 l2 l3 ⊢
    show t_X d 116 9 lv1 [] g P
    by_cases a0 : w < 0
    · refine mid_L (k := kcda_1) ecda_1 hG hx (xs := [cv (pvR 0), cv (oI i), cv (oI w), cv (pvR (4 + 2 * m))]) (ys := []) ⟨by show 2 ≤ _; omega, ⟨⟨pvR 0, l0, rfl, rfl, ok_0⟩, ⟨oI i, l1, rfl, rfl, ok_full32 _⟩, ⟨oI w, l2, rfl, rfl, ok_oI (by omega) (by decide) (by decide)⟩, ⟨pvR (4 + 2 * m), l3, rfl, rfl, ok_sl4 hm⟩, trivial⟩, trivial, fun c hc => absurd hc List.not_mem_nil⟩ (by omega) (fun o G1 X1 M1 P1 => ?_)
      obtain ⟨o1, o2⟩ := o
      obtain ⟨rfl, -⟩ := po_c P1
      exact hR _ G1 X1 (f_M_0 M1) (fun u v => cF_M0 M1 u v) (fun z => by have z1 := z.2; omega)
    · skip
      by_cases a1 : 99 < w
      · refine mid_L (k := kcda_2) ecda_2 hG hx (xs := [cv (pvR 0), cv (oI i), cv (oI w), cv (pvR (4 + 2 * m))]) (ys := []) ⟨by show 2 ≤ _; omega, ⟨⟨pvR 0, l0, rfl, rfl, ok_0⟩, ⟨oI i, l1, rfl, rfl, ok_full32 _⟩, ⟨oI w, l2, rfl, rfl, ok_oI (by omega) (by decide) (by decide)⟩, ⟨pvR (4 + 2 * m), l3, rfl, rfl, ok_sl4 hm⟩, trivial⟩, trivial, fun c hc => absurd hc List.not_mem_nil⟩ (by omega) (fun o G1 X1 M1 P1 => ?_)
        obtain ⟨o1, o2⟩ := o
        obtain ⟨rfl, -⟩ := po_c P1
        exact hR _ G1 X1 (f_M_0 M1) (fun u v => cF_M0 M1 u v) (fun z => by have z1 := z.2; omega)
      · skip
        refine mid_L (k := kcda_a) ecda_a hG hx (xs := [cv (pvR 0), cv (oI i), cv (oI w), cv (pvR (4 + 2 * m))]) (ys := []) ⟨by show 2 ≤ _; omega, ⟨⟨pvR 0, l0, rfl, rfl, ok_0⟩, ⟨oI i, l1, rfl, rfl, ok_full32 _⟩, ⟨oI w, l2, rfl, rfl, ok_oI (by omega) (by decide) (by decide)⟩, ⟨pvR (4 + 2 * m), l3, rfl, rfl, ok_sl4 hm⟩, trivial⟩, trivial, fun c hc => absurd hc List.not_mem_nil⟩ (by omega) (fun o G1 X1 M1 P1 => ?_)
        obtain ⟨o1, o2⟩ := o
        obtain ⟨rfl, ys, hF⟩ := po_c P1
        exact hA _ G1 X1 M1 ⟨⟨m, hm, e1, c0⟩, by omega⟩
  · show t_X d 116 8 lv [.inr (.inr none)] g P
    refine t_2 qcda_8 rfl (w := (px_s1 lv 3 (.inr (.inr none)), [])) rfl ?_
    replace l0 : px_lg (px_s1 lv 3 (.inr (.inr none))) 0 = some (pvR 0) := s1_ne (by decide) (fun _ => rfl) l0
    replace l1 : px_lg (px_s1 lv 3 (.inr (.inr none))) 1 = some (oI (i)) := s1_ne (by decide) (fun _ => rfl) l1
    replace l2 : px_lg (px_s1 lv 3 (.inr (.inr none))) 2 = some (oI (w)) := s1_ne (by decide) (fun _ => rfl) l2
    have l3 : px_lg (px_s1 lv 3 (.inr (.inr none))) 3 = some (.inr (.inr none)) := s1_eq
    generalize px_s1 lv 3 (.inr (.inr none)) = lv2 at l0 l1 l2 l3 ⊢
    show t_X d 116 9 lv2 [] g P
    refine mid_L (k := kcda_n) ecda_n hG hx (xs := [cv (pvR 0), cv (oI i), cv (oI w), cv (.inr (.inr none))]) (ys := []) ⟨by show 2 ≤ _; omega, ⟨⟨pvR 0, l0, rfl, rfl, ok_0⟩, ⟨oI i, l1, rfl, rfl, ok_full32 _⟩, ⟨oI w, l2, rfl, rfl, ok_full32 _⟩, ⟨.inr (.inr none), l3, rfl, rfl, ok_nul⟩, trivial⟩, trivial, fun c hc => absurd hc List.not_mem_nil⟩ (by omega) (fun o G1 X1 M1 P1 => ?_)
    obtain ⟨o1, o2⟩ := o
    obtain ⟨rfl, -⟩ := po_c P1
    exact hR _ G1 X1 (f_M_0 M1) (fun u v => cF_M0 M1 u v) (fun z => c0 z.1)
set_option maxHeartbeats 2000000 in
theorem csu_run {d : Nat} (hd : 2 ≤ d) (hd2 : d ≤ 1000000) {g : pH} (hG : g_I eG g) (hx : xL g) (hS : rS g) {i w : Int} (hi : -2147483648 ≤ i ∧ i ≤ 2147483647) (hw : -2147483648 ≤ w ∧ w ≤ 2147483647) {P : Option pv × pH → Prop} (hA : ∀ (g1 : pH), g_I eG g1 → xL g1 → f_M kcsu_a.2.2.2.1 g g1 → toC g i ∧ (0 ≤ w ∧ w ≤ 3) → P (some (oI 1), g1)) (hR : ∀ (g1 : pH), g_I eG g1 → xL g1 → f_M kcsu_a.2.2.2.1 g g1 → (∀ u v, cF g1 u v = cF g u v) → ¬ (toC g i ∧ (0 ≤ w ∧ w ≤ 3)) → P (some (oI 0), g1)) {lv : List (Nat × pv)} (l0 : px_lg lv 0 = some (pvR 0)) (l1 : px_lg lv 1 = some (oI i)) (l2 : px_lg lv 2 = some (oI w)) : t_X d 150 0 lv [] g P := by
  have hJ : J_ 0 g g := J_rf hG
  have hb := cb_0_1 hG
  refine t_0 qcsu_0 rfl (ld_a l0) ?_
  refine t_0 qcsu_1 rfl (cr_0_2 hJ.1) ?_
  refine t_0 qcsu_4 rfl (ld_i l1) ?_
  refine t_3 qcsu_5 rfl (ar := ([pvR 2, oI (i)], [])) (pcal_v1 rfl rfl er_2) ⟨by omega, Nat.le_of_ble_eq_true rfl, Nat.le_of_ble_eq_true rfl, rfl⟩ ?_
  refine td_run (by omega) hJ.1 hS (by omega) (fun m hm e1 c0 => ?_) (fun c0 => ?_) rfl rfl
  · show t_X d 150 8 lv [pvR (4 + 2 * m)] g P
    refine t_2 qcsu_8 rfl (w := (px_s1 lv 3 (pvR (4 + 2 * m)), [])) rfl ?_
    replace l0 : px_lg (px_s1 lv 3 (pvR (4 + 2 * m))) 0 = some (pvR 0) := s1_ne (by decide) (fun _ => rfl) l0
    replace l1 : px_lg (px_s1 lv 3 (pvR (4 + 2 * m))) 1 = some (oI (i)) := s1_ne (by decide) (fun _ => rfl) l1
    replace l2 : px_lg (px_s1 lv 3 (pvR (4 + 2 * m))) 2 = some (oI (w)) := s1_ne (by decide) (fun _ => rfl) l2
    have l3 : px_lg (px_s1 lv 3 (pvR (4 + 2 * m))) 3 = some (pvR (4 + 2 * m)) := s1_eq
    generalize px_s1 lv 3 (pvR (4 + 2 * m)) = lv1 at l0 l1 l2 l3 ⊢
    show t_X d 150 9 lv1 [] g P
    by_cases a0 : w < 0
    · refine mid_L (k := kcsu_1) ecsu_1 hG hx (xs := [cv (pvR 0), cv (oI i), cv (oI w), cv (pvR (4 + 2 * m))]) (ys := []) ⟨by show 2 ≤ _; omega, ⟨⟨pvR 0, l0, rfl, rfl, ok_0⟩, ⟨oI i, l1, rfl, rfl, ok_full32 _⟩, ⟨oI w, l2, rfl, rfl, ok_oI (by omega) (by decide) (by decide)⟩, ⟨pvR (4 + 2 * m), l3, rfl, rfl, ok_sl4 hm⟩, trivial⟩, trivial, fun c hc => absurd hc List.not_mem_nil⟩ (by omega) (fun o G1 X1 M1 P1 => ?_)
      obtain ⟨o1, o2⟩ := o
      obtain ⟨rfl, -⟩ := po_c P1
      exact hR _ G1 X1 (f_M_0 M1) (fun u v => cF_M0 M1 u v) (fun z => by have z1 := z.2; omega)
    · skip
      by_cases a1 : 3 < w
      · refine mid_L (k := kcsu_2) ecsu_2 hG hx (xs := [cv (pvR 0), cv (oI i), cv (oI w), cv (pvR (4 + 2 * m))]) (ys := []) ⟨by show 2 ≤ _; omega, ⟨⟨pvR 0, l0, rfl, rfl, ok_0⟩, ⟨oI i, l1, rfl, rfl, ok_full32 _⟩, ⟨oI w, l2, rfl, rfl, ok_oI (by omega) (by decide) (by decide)⟩, ⟨pvR (4 + 2 * m), l3, rfl, rfl, ok_sl4 hm⟩, trivial⟩, trivial, fun c hc => absurd hc List.not_mem_nil⟩ (by omega) (fun o G1 X1 M1 P1 => ?_)
        obtain ⟨o1, o2⟩ := o
        obtain ⟨rfl, -⟩ := po_c P1
        exact hR _ G1 X1 (f_M_0 M1) (fun u v => cF_M0 M1 u v) (fun z => by have z1 := z.2; omega)
      · skip
        refine mid_L (k := kcsu_a) ecsu_a hG hx (xs := [cv (pvR 0), cv (oI i), cv (oI w), cv (pvR (4 + 2 * m))]) (ys := []) ⟨by show 2 ≤ _; omega, ⟨⟨pvR 0, l0, rfl, rfl, ok_0⟩, ⟨oI i, l1, rfl, rfl, ok_full32 _⟩, ⟨oI w, l2, rfl, rfl, ok_oI (by omega) (by decide) (by decide)⟩, ⟨pvR (4 + 2 * m), l3, rfl, rfl, ok_sl4 hm⟩, trivial⟩, trivial, fun c hc => absurd hc List.not_mem_nil⟩ (by omega) (fun o G1 X1 M1 P1 => ?_)
        obtain ⟨o1, o2⟩ := o
        obtain ⟨rfl, ys, hF⟩ := po_c P1
        exact hA _ G1 X1 M1 ⟨⟨m, hm, e1, c0⟩, by omega⟩
  · show t_X d 150 8 lv [.inr (.inr none)] g P
    refine t_2 qcsu_8 rfl (w := (px_s1 lv 3 (.inr (.inr none)), [])) rfl ?_
    replace l0 : px_lg (px_s1 lv 3 (.inr (.inr none))) 0 = some (pvR 0) := s1_ne (by decide) (fun _ => rfl) l0
    replace l1 : px_lg (px_s1 lv 3 (.inr (.inr none))) 1 = some (oI (i)) := s1_ne (by decide) (fun _ => rfl) l1
    replace l2 : px_lg (px_s1 lv 3 (.inr (.inr none))) 2 = some (oI (w)) := s1_ne (by decide) (fun _ => rfl) l2
    have l3 : px_lg (px_s1 lv 3 (.inr (.inr none))) 3 = some (.inr (.inr none)) := s1_eq
    generalize px_s1 lv 3 (.inr (.inr none)) = lv2 at l0 l1 l2 l3 ⊢
    show t_X d 150 9 lv2 [] g P
    refine mid_L (k := kcsu_n) ecsu_n hG hx (xs := [cv (pvR 0), cv (oI i), cv (oI w), cv (.inr (.inr none))]) (ys := []) ⟨by show 2 ≤ _; omega, ⟨⟨pvR 0, l0, rfl, rfl, ok_0⟩, ⟨oI i, l1, rfl, rfl, ok_full32 _⟩, ⟨oI w, l2, rfl, rfl, ok_full32 _⟩, ⟨.inr (.inr none), l3, rfl, rfl, ok_nul⟩, trivial⟩, trivial, fun c hc => absurd hc List.not_mem_nil⟩ (by omega) (fun o G1 X1 M1 P1 => ?_)
    obtain ⟨o1, o2⟩ := o
    obtain ⟨rfl, -⟩ := po_c P1
    exact hR _ G1 X1 (f_M_0 M1) (fun u v => cF_M0 M1 u v) (fun z => c0 z.1)
set_option maxHeartbeats 2000000 in
theorem cod_run {d : Nat} (hd : 4 ≤ d) (hd2 : d ≤ 1000000) {g : pH} (hG : g_I eG g) (hx : xL g) (hS : rS g) {i w n q : Int} (hi : -2147483648 ≤ i ∧ i ≤ 2147483647) (hw : -2147483648 ≤ w ∧ w ≤ 2147483647) (hn : -2147483648 ≤ n ∧ n ≤ 2147483647) (hq : -2147483648 ≤ q ∧ q ≤ 2147483647) {P : Option pv × pH → Prop} (hA : ∀ (v : Int32) (g1 : pH), g_I eG g1 → xL g1 → f_M kcod_a.2.2.2.1 g g1 → cF g1 0 1 = 0 → toC g i ∧ (0 ≤ w ∧ w ≤ 7) ∧ (0 ≤ n ∧ n ≤ 8) ∧ (0 ≤ q ∧ q ≤ 1) ∧ 3 * n ≤ cF g 0 1 → P (some (.inl v), g1)) (hR : ∀ (g1 : pH), g_I eG g1 → xL g1 → f_M kcod_a.2.2.2.1 g g1 → (∀ u v, cF g1 u v = cF g u v) → ¬ (toC g i ∧ (0 ≤ w ∧ w ≤ 7) ∧ (0 ≤ n ∧ n ≤ 8) ∧ (0 ≤ q ∧ q ≤ 1) ∧ 3 * n ≤ cF g 0 1) → P (some (oI (-1)), g1)) {lv : List (Nat × pv)} (l0 : px_lg lv 0 = some (pvR 0)) (l1 : px_lg lv 1 = some (oI i)) (l2 : px_lg lv 2 = some (oI w)) (l3 : px_lg lv 3 = some (oI n)) (l4 : px_lg lv 4 = some (oI q)) : t_X d 137 0 lv [] g P := by
  have hJ : J_ 0 g g := J_rf hG
  have hb := cb_0_1 hG
  refine t_0 qcod_0 rfl (ld_a l0) ?_
  refine t_0 qcod_1 rfl (cr_0_2 hJ.1) ?_
  refine t_0 qcod_4 rfl (ld_i l1) ?_
  refine t_3 qcod_5 rfl (ar := ([pvR 2, oI (i)], [])) (pcal_v1 rfl rfl er_2) ⟨by omega, Nat.le_of_ble_eq_true rfl, Nat.le_of_ble_eq_true rfl, rfl⟩ ?_
  refine td_run (by omega) hJ.1 hS (by omega) (fun m hm e1 c0 => ?_) (fun c0 => ?_) rfl rfl
  · show t_X d 137 8 lv [pvR (4 + 2 * m)] g P
    refine t_2 qcod_8 rfl (w := (px_s1 lv 5 (pvR (4 + 2 * m)), [])) rfl ?_
    replace l0 : px_lg (px_s1 lv 5 (pvR (4 + 2 * m))) 0 = some (pvR 0) := s1_ne (by decide) (fun _ => rfl) l0
    replace l1 : px_lg (px_s1 lv 5 (pvR (4 + 2 * m))) 1 = some (oI (i)) := s1_ne (by decide) (fun _ => rfl) l1
    replace l2 : px_lg (px_s1 lv 5 (pvR (4 + 2 * m))) 2 = some (oI (w)) := s1_ne (by decide) (fun _ => rfl) l2
    replace l3 : px_lg (px_s1 lv 5 (pvR (4 + 2 * m))) 3 = some (oI (n)) := s1_ne (by decide) (fun _ => rfl) l3
    replace l4 : px_lg (px_s1 lv 5 (pvR (4 + 2 * m))) 4 = some (oI (q)) := s1_ne (by decide) (fun _ => rfl) l4
    have l5 : px_lg (px_s1 lv 5 (pvR (4 + 2 * m))) 5 = some (pvR (4 + 2 * m)) := s1_eq
    generalize px_s1 lv 5 (pvR (4 + 2 * m)) = lv1 at l0 l1 l2 l3 l4 l5 ⊢
    show t_X d 137 10 lv1 [] g P
    by_cases a0 : w < 0
    · refine mid_L (k := kcod_1) ecod_1 hG hx (xs := [cv (pvR 0), cv (oI i), cv (oI w), cv (oI n), cv (oI q), cv (pvR (4 + 2 * m))]) (ys := []) ⟨by show 4 ≤ _; omega, ⟨⟨pvR 0, l0, rfl, rfl, ok_0⟩, ⟨oI i, l1, rfl, rfl, ok_full32 _⟩, ⟨oI w, l2, rfl, rfl, ok_oI (by omega) (by decide) (by decide)⟩, ⟨oI n, l3, rfl, rfl, ok_full32 _⟩, ⟨oI q, l4, rfl, rfl, ok_full32 _⟩, ⟨pvR (4 + 2 * m), l5, rfl, rfl, ok_sl4 hm⟩, trivial⟩, trivial, fun c hc => absurd hc List.not_mem_nil⟩ (by omega) (fun o G1 X1 M1 P1 => ?_)
      obtain ⟨o1, o2⟩ := o
      obtain ⟨rfl, -⟩ := po_c P1
      exact hR _ G1 X1 (f_M_0 M1) (fun u v => cF_M0 M1 u v) (fun z => by have z1 := z.2; omega)
    · skip
      by_cases a1 : 7 < w
      · refine mid_L (k := kcod_2) ecod_2 hG hx (xs := [cv (pvR 0), cv (oI i), cv (oI w), cv (oI n), cv (oI q), cv (pvR (4 + 2 * m))]) (ys := []) ⟨by show 4 ≤ _; omega, ⟨⟨pvR 0, l0, rfl, rfl, ok_0⟩, ⟨oI i, l1, rfl, rfl, ok_full32 _⟩, ⟨oI w, l2, rfl, rfl, ok_oI (by omega) (by decide) (by decide)⟩, ⟨oI n, l3, rfl, rfl, ok_full32 _⟩, ⟨oI q, l4, rfl, rfl, ok_full32 _⟩, ⟨pvR (4 + 2 * m), l5, rfl, rfl, ok_sl4 hm⟩, trivial⟩, trivial, fun c hc => absurd hc List.not_mem_nil⟩ (by omega) (fun o G1 X1 M1 P1 => ?_)
        obtain ⟨o1, o2⟩ := o
        obtain ⟨rfl, -⟩ := po_c P1
        exact hR _ G1 X1 (f_M_0 M1) (fun u v => cF_M0 M1 u v) (fun z => by have z1 := z.2; omega)
      · skip
        by_cases a2 : n < 0
        · refine mid_L (k := kcod_3) ecod_3 hG hx (xs := [cv (pvR 0), cv (oI i), cv (oI w), cv (oI n), cv (oI q), cv (pvR (4 + 2 * m))]) (ys := []) ⟨by show 4 ≤ _; omega, ⟨⟨pvR 0, l0, rfl, rfl, ok_0⟩, ⟨oI i, l1, rfl, rfl, ok_full32 _⟩, ⟨oI w, l2, rfl, rfl, ok_full32 _⟩, ⟨oI n, l3, rfl, rfl, ok_oI (by omega) (by decide) (by decide)⟩, ⟨oI q, l4, rfl, rfl, ok_full32 _⟩, ⟨pvR (4 + 2 * m), l5, rfl, rfl, ok_sl4 hm⟩, trivial⟩, trivial, fun c hc => absurd hc List.not_mem_nil⟩ (by omega) (fun o G1 X1 M1 P1 => ?_)
          obtain ⟨o1, o2⟩ := o
          obtain ⟨rfl, -⟩ := po_c P1
          exact hR _ G1 X1 (f_M_0 M1) (fun u v => cF_M0 M1 u v) (fun z => by have z1 := z.2; omega)
        · skip
          by_cases a3 : 8 < n
          · refine mid_L (k := kcod_4) ecod_4 hG hx (xs := [cv (pvR 0), cv (oI i), cv (oI w), cv (oI n), cv (oI q), cv (pvR (4 + 2 * m))]) (ys := []) ⟨by show 4 ≤ _; omega, ⟨⟨pvR 0, l0, rfl, rfl, ok_0⟩, ⟨oI i, l1, rfl, rfl, ok_full32 _⟩, ⟨oI w, l2, rfl, rfl, ok_full32 _⟩, ⟨oI n, l3, rfl, rfl, ok_oI (by omega) (by decide) (by decide)⟩, ⟨oI q, l4, rfl, rfl, ok_full32 _⟩, ⟨pvR (4 + 2 * m), l5, rfl, rfl, ok_sl4 hm⟩, trivial⟩, trivial, fun c hc => absurd hc List.not_mem_nil⟩ (by omega) (fun o G1 X1 M1 P1 => ?_)
            obtain ⟨o1, o2⟩ := o
            obtain ⟨rfl, -⟩ := po_c P1
            exact hR _ G1 X1 (f_M_0 M1) (fun u v => cF_M0 M1 u v) (fun z => by have z1 := z.2; omega)
          · skip
            by_cases a4 : q < 0
            · refine mid_L (k := kcod_5) ecod_5 hG hx (xs := [cv (pvR 0), cv (oI i), cv (oI w), cv (oI n), cv (oI q), cv (pvR (4 + 2 * m))]) (ys := []) ⟨by show 4 ≤ _; omega, ⟨⟨pvR 0, l0, rfl, rfl, ok_0⟩, ⟨oI i, l1, rfl, rfl, ok_full32 _⟩, ⟨oI w, l2, rfl, rfl, ok_full32 _⟩, ⟨oI n, l3, rfl, rfl, ok_full32 _⟩, ⟨oI q, l4, rfl, rfl, ok_oI (by omega) (by decide) (by decide)⟩, ⟨pvR (4 + 2 * m), l5, rfl, rfl, ok_sl4 hm⟩, trivial⟩, trivial, fun c hc => absurd hc List.not_mem_nil⟩ (by omega) (fun o G1 X1 M1 P1 => ?_)
              obtain ⟨o1, o2⟩ := o
              obtain ⟨rfl, -⟩ := po_c P1
              exact hR _ G1 X1 (f_M_0 M1) (fun u v => cF_M0 M1 u v) (fun z => by have z1 := z.2; omega)
            · skip
              by_cases a5 : 1 < q
              · refine mid_L (k := kcod_6) ecod_6 hG hx (xs := [cv (pvR 0), cv (oI i), cv (oI w), cv (oI n), cv (oI q), cv (pvR (4 + 2 * m))]) (ys := []) ⟨by show 4 ≤ _; omega, ⟨⟨pvR 0, l0, rfl, rfl, ok_0⟩, ⟨oI i, l1, rfl, rfl, ok_full32 _⟩, ⟨oI w, l2, rfl, rfl, ok_full32 _⟩, ⟨oI n, l3, rfl, rfl, ok_full32 _⟩, ⟨oI q, l4, rfl, rfl, ok_oI (by omega) (by decide) (by decide)⟩, ⟨pvR (4 + 2 * m), l5, rfl, rfl, ok_sl4 hm⟩, trivial⟩, trivial, fun c hc => absurd hc List.not_mem_nil⟩ (by omega) (fun o G1 X1 M1 P1 => ?_)
                obtain ⟨o1, o2⟩ := o
                obtain ⟨rfl, -⟩ := po_c P1
                exact hR _ G1 X1 (f_M_0 M1) (fun u v => cF_M0 M1 u v) (fun z => by have z1 := z.2; omega)
              · skip
                by_cases a6 : cF g 0 1 < 3 * n
                · refine mid_L (k := kcod_7) ecod_7 hG hx (xs := [cv (pvR 0), cv (oI i), cv (oI w), cv (oI n), cv (oI q), cv (pvR (4 + 2 * m))]) (ys := [cF g 0 1]) ⟨by show 4 ≤ _; omega, ⟨⟨pvR 0, l0, rfl, rfl, ok_0⟩, ⟨oI i, l1, rfl, rfl, ok_full32 _⟩, ⟨oI w, l2, rfl, rfl, ok_oI (by omega) (by decide) (by decide)⟩, ⟨oI n, l3, rfl, rfl, ok_oI (by omega) (by decide) (by decide)⟩, ⟨oI q, l4, rfl, rfl, ok_oI (by omega) (by decide) (by decide)⟩, ⟨pvR (4 + 2 * m), l5, rfl, rfl, ok_sl4 hm⟩, trivial⟩, ⟨⟨.inl (g.1 0 1), hc_i er_0 (Nat.le_of_ble_eq_true rfl) rfl, rfl, rfl, ⟨hb.1, hb.2, Or.inl rfl⟩⟩, trivial⟩, fun c hc => by obtain rfl := List.mem_singleton.mp hc; exact ⟨_, ⟨_, rfl, rfl⟩, by show (1 : Int) + ((-3) * cv (oI n) + (1 * cF g 0 1 + 0)) ≤ 0; rw [cv_oI (a := n) (by omega)]; omega⟩⟩ (by omega) (fun o G1 X1 M1 P1 => ?_)
                  obtain ⟨o1, o2⟩ := o
                  obtain ⟨rfl, -⟩ := po_c P1
                  exact hR _ G1 X1 (f_M_0 M1) (fun u v => cF_M0 M1 u v) (fun z => by have z1 := z.2; omega)
                · skip
                  refine mid_L (k := kcod_a) ecod_a hG hx (xs := [cv (pvR 0), cv (oI i), cv (oI w), cv (oI n), cv (oI q), cv (pvR (4 + 2 * m))]) (ys := [cF g 0 1]) ⟨by show 4 ≤ _; omega, ⟨⟨pvR 0, l0, rfl, rfl, ok_0⟩, ⟨oI i, l1, rfl, rfl, ok_full32 _⟩, ⟨oI w, l2, rfl, rfl, ok_oI (by omega) (by decide) (by decide)⟩, ⟨oI n, l3, rfl, rfl, ok_oI (by omega) (by decide) (by decide)⟩, ⟨oI q, l4, rfl, rfl, ok_oI (by omega) (by decide) (by decide)⟩, ⟨pvR (4 + 2 * m), l5, rfl, rfl, ok_sl4 hm⟩, trivial⟩, ⟨⟨.inl (g.1 0 1), hc_i er_0 (Nat.le_of_ble_eq_true rfl) rfl, rfl, rfl, ⟨hb.1, hb.2, Or.inl rfl⟩⟩, trivial⟩, fun c hc => by obtain rfl := List.mem_singleton.mp hc; exact ⟨_, ⟨_, rfl, rfl⟩, by show (0 : Int) + (3 * cv (oI n) + ((-1) * cF g 0 1 + 0)) ≤ 0; rw [cv_oI (a := n) (by omega)]; omega⟩⟩ (by omega) (fun o G1 X1 M1 P1 => ?_)
                  obtain ⟨o1, o2⟩ := o
                  obtain ⟨z, rfl, hz, ys, hF⟩ := po_i P1
                  exact hA _ _ G1 X1 M1 (fa_i er_0 (Nat.le_of_ble_eq_true rfl) rfl hF) ⟨⟨m, hm, e1, c0⟩, by omega⟩
  · show t_X d 137 8 lv [.inr (.inr none)] g P
    refine t_2 qcod_8 rfl (w := (px_s1 lv 5 (.inr (.inr none)), [])) rfl ?_
    replace l0 : px_lg (px_s1 lv 5 (.inr (.inr none))) 0 = some (pvR 0) := s1_ne (by decide) (fun _ => rfl) l0
    replace l1 : px_lg (px_s1 lv 5 (.inr (.inr none))) 1 = some (oI (i)) := s1_ne (by decide) (fun _ => rfl) l1
    replace l2 : px_lg (px_s1 lv 5 (.inr (.inr none))) 2 = some (oI (w)) := s1_ne (by decide) (fun _ => rfl) l2
    replace l3 : px_lg (px_s1 lv 5 (.inr (.inr none))) 3 = some (oI (n)) := s1_ne (by decide) (fun _ => rfl) l3
    replace l4 : px_lg (px_s1 lv 5 (.inr (.inr none))) 4 = some (oI (q)) := s1_ne (by decide) (fun _ => rfl) l4
    have l5 : px_lg (px_s1 lv 5 (.inr (.inr none))) 5 = some (.inr (.inr none)) := s1_eq
    generalize px_s1 lv 5 (.inr (.inr none)) = lv2 at l0 l1 l2 l3 l4 l5 ⊢
    show t_X d 137 10 lv2 [] g P
    refine mid_L (k := kcod_n) ecod_n hG hx (xs := [cv (pvR 0), cv (oI i), cv (oI w), cv (oI n), cv (oI q), cv (.inr (.inr none))]) (ys := []) ⟨by show 4 ≤ _; omega, ⟨⟨pvR 0, l0, rfl, rfl, ok_0⟩, ⟨oI i, l1, rfl, rfl, ok_full32 _⟩, ⟨oI w, l2, rfl, rfl, ok_full32 _⟩, ⟨oI n, l3, rfl, rfl, ok_full32 _⟩, ⟨oI q, l4, rfl, rfl, ok_full32 _⟩, ⟨.inr (.inr none), l5, rfl, rfl, ok_nul⟩, trivial⟩, trivial, fun c hc => absurd hc List.not_mem_nil⟩ (by omega) (fun o G1 X1 M1 P1 => ?_)
    obtain ⟨o1, o2⟩ := o
    obtain ⟨rfl, -⟩ := po_c P1
    exact hR _ G1 X1 (f_M_0 M1) (fun u v => cF_M0 M1 u v) (fun z => c0 z.1)
set_option maxHeartbeats 2000000 in
theorem cch_run {d : Nat} (hd : 2 ≤ d) (hd2 : d ≤ 1000000) {g : pH} (hG : g_I eG g) (hx : xL g) (hS : rS g) {i n : Int} (hi : -2147483648 ≤ i ∧ i ≤ 2147483647) (hn : -2147483648 ≤ n ∧ n ≤ 2147483647) {P : Option pv × pH → Prop} (hA : ∀ (v : Int32) (g1 : pH), g_I eG g1 → xL g1 → f_M kcch_a.2.2.2.1 g g1 → cF g1 0 1 = 0 → toC g i ∧ (0 ≤ n ∧ n ≤ 25) ∧ n ≤ cF g 0 1 → P (some (.inl v), g1)) (hR : ∀ (g1 : pH), g_I eG g1 → xL g1 → f_M kcch_a.2.2.2.1 g g1 → (∀ u v, cF g1 u v = cF g u v) → ¬ (toC g i ∧ (0 ≤ n ∧ n ≤ 25) ∧ n ≤ cF g 0 1) → P (some (oI (-2)), g1)) {lv : List (Nat × pv)} (l0 : px_lg lv 0 = some (pvR 0)) (l1 : px_lg lv 1 = some (oI i)) (l2 : px_lg lv 2 = some (oI n)) : t_X d 110 0 lv [] g P := by
  have hJ : J_ 0 g g := J_rf hG
  have hb := cb_0_1 hG
  refine t_0 qcch_0 rfl (ld_a l0) ?_
  refine t_0 qcch_1 rfl (cr_0_2 hJ.1) ?_
  refine t_0 qcch_4 rfl (ld_i l1) ?_
  refine t_3 qcch_5 rfl (ar := ([pvR 2, oI (i)], [])) (pcal_v1 rfl rfl er_2) ⟨by omega, Nat.le_of_ble_eq_true rfl, Nat.le_of_ble_eq_true rfl, rfl⟩ ?_
  refine td_run (by omega) hJ.1 hS (by omega) (fun m hm e1 c0 => ?_) (fun c0 => ?_) rfl rfl
  · show t_X d 110 8 lv [pvR (4 + 2 * m)] g P
    refine t_2 qcch_8 rfl (w := (px_s1 lv 3 (pvR (4 + 2 * m)), [])) rfl ?_
    replace l0 : px_lg (px_s1 lv 3 (pvR (4 + 2 * m))) 0 = some (pvR 0) := s1_ne (by decide) (fun _ => rfl) l0
    replace l1 : px_lg (px_s1 lv 3 (pvR (4 + 2 * m))) 1 = some (oI (i)) := s1_ne (by decide) (fun _ => rfl) l1
    replace l2 : px_lg (px_s1 lv 3 (pvR (4 + 2 * m))) 2 = some (oI (n)) := s1_ne (by decide) (fun _ => rfl) l2
    have l3 : px_lg (px_s1 lv 3 (pvR (4 + 2 * m))) 3 = some (pvR (4 + 2 * m)) := s1_eq
    generalize px_s1 lv 3 (pvR (4 + 2 * m)) = lv1 at l0 l1 l2 l3 ⊢
    show t_X d 110 9 lv1 [] g P
    by_cases a0 : n < 0
    · refine mid_L (k := kcch_1) ecch_1 hG hx (xs := [cv (pvR 0), cv (oI i), cv (oI n), cv (pvR (4 + 2 * m))]) (ys := []) ⟨by show 2 ≤ _; omega, ⟨⟨pvR 0, l0, rfl, rfl, ok_0⟩, ⟨oI i, l1, rfl, rfl, ok_full32 _⟩, ⟨oI n, l2, rfl, rfl, ok_oI (by omega) (by decide) (by decide)⟩, ⟨pvR (4 + 2 * m), l3, rfl, rfl, ok_sl4 hm⟩, trivial⟩, trivial, fun c hc => absurd hc List.not_mem_nil⟩ (by omega) (fun o G1 X1 M1 P1 => ?_)
      obtain ⟨o1, o2⟩ := o
      obtain ⟨rfl, -⟩ := po_c P1
      exact hR _ G1 X1 (f_M_0 M1) (fun u v => cF_M0 M1 u v) (fun z => by have z1 := z.2; omega)
    · skip
      by_cases a1 : 25 < n
      · refine mid_L (k := kcch_2) ecch_2 hG hx (xs := [cv (pvR 0), cv (oI i), cv (oI n), cv (pvR (4 + 2 * m))]) (ys := []) ⟨by show 2 ≤ _; omega, ⟨⟨pvR 0, l0, rfl, rfl, ok_0⟩, ⟨oI i, l1, rfl, rfl, ok_full32 _⟩, ⟨oI n, l2, rfl, rfl, ok_oI (by omega) (by decide) (by decide)⟩, ⟨pvR (4 + 2 * m), l3, rfl, rfl, ok_sl4 hm⟩, trivial⟩, trivial, fun c hc => absurd hc List.not_mem_nil⟩ (by omega) (fun o G1 X1 M1 P1 => ?_)
        obtain ⟨o1, o2⟩ := o
        obtain ⟨rfl, -⟩ := po_c P1
        exact hR _ G1 X1 (f_M_0 M1) (fun u v => cF_M0 M1 u v) (fun z => by have z1 := z.2; omega)
      · skip
        by_cases a2 : cF g 0 1 < n
        · refine mid_L (k := kcch_3) ecch_3 hG hx (xs := [cv (pvR 0), cv (oI i), cv (oI n), cv (pvR (4 + 2 * m))]) (ys := [cF g 0 1]) ⟨by show 2 ≤ _; omega, ⟨⟨pvR 0, l0, rfl, rfl, ok_0⟩, ⟨oI i, l1, rfl, rfl, ok_full32 _⟩, ⟨oI n, l2, rfl, rfl, ok_oI (by omega) (by decide) (by decide)⟩, ⟨pvR (4 + 2 * m), l3, rfl, rfl, ok_sl4 hm⟩, trivial⟩, ⟨⟨.inl (g.1 0 1), hc_i er_0 (Nat.le_of_ble_eq_true rfl) rfl, rfl, rfl, ⟨hb.1, hb.2, Or.inl rfl⟩⟩, trivial⟩, fun c hc => by obtain rfl := List.mem_singleton.mp hc; exact ⟨_, ⟨_, rfl, rfl⟩, by show (1 : Int) + ((-1) * cv (oI n) + (1 * cF g 0 1 + 0)) ≤ 0; rw [cv_oI (a := n) (by omega)]; omega⟩⟩ (by omega) (fun o G1 X1 M1 P1 => ?_)
          obtain ⟨o1, o2⟩ := o
          obtain ⟨rfl, -⟩ := po_c P1
          exact hR _ G1 X1 (f_M_0 M1) (fun u v => cF_M0 M1 u v) (fun z => by have z1 := z.2; omega)
        · skip
          refine mid_L (k := kcch_a) ecch_a hG hx (xs := [cv (pvR 0), cv (oI i), cv (oI n), cv (pvR (4 + 2 * m))]) (ys := [cF g 0 1]) ⟨by show 2 ≤ _; omega, ⟨⟨pvR 0, l0, rfl, rfl, ok_0⟩, ⟨oI i, l1, rfl, rfl, ok_full32 _⟩, ⟨oI n, l2, rfl, rfl, ok_oI (by omega) (by decide) (by decide)⟩, ⟨pvR (4 + 2 * m), l3, rfl, rfl, ok_sl4 hm⟩, trivial⟩, ⟨⟨.inl (g.1 0 1), hc_i er_0 (Nat.le_of_ble_eq_true rfl) rfl, rfl, rfl, ⟨hb.1, hb.2, Or.inl rfl⟩⟩, trivial⟩, fun c hc => by obtain rfl := List.mem_singleton.mp hc; exact ⟨_, ⟨_, rfl, rfl⟩, by show (0 : Int) + (1 * cv (oI n) + ((-1) * cF g 0 1 + 0)) ≤ 0; rw [cv_oI (a := n) (by omega)]; omega⟩⟩ (by omega) (fun o G1 X1 M1 P1 => ?_)
          obtain ⟨o1, o2⟩ := o
          obtain ⟨z, rfl, hz, ys, hF⟩ := po_i P1
          exact hA _ _ G1 X1 M1 (fa_i er_0 (Nat.le_of_ble_eq_true rfl) rfl hF) ⟨⟨m, hm, e1, c0⟩, by omega⟩
  · show t_X d 110 8 lv [.inr (.inr none)] g P
    refine t_2 qcch_8 rfl (w := (px_s1 lv 3 (.inr (.inr none)), [])) rfl ?_
    replace l0 : px_lg (px_s1 lv 3 (.inr (.inr none))) 0 = some (pvR 0) := s1_ne (by decide) (fun _ => rfl) l0
    replace l1 : px_lg (px_s1 lv 3 (.inr (.inr none))) 1 = some (oI (i)) := s1_ne (by decide) (fun _ => rfl) l1
    replace l2 : px_lg (px_s1 lv 3 (.inr (.inr none))) 2 = some (oI (n)) := s1_ne (by decide) (fun _ => rfl) l2
    have l3 : px_lg (px_s1 lv 3 (.inr (.inr none))) 3 = some (.inr (.inr none)) := s1_eq
    generalize px_s1 lv 3 (.inr (.inr none)) = lv2 at l0 l1 l2 l3 ⊢
    show t_X d 110 9 lv2 [] g P
    refine mid_L (k := kcch_n) ecch_n hG hx (xs := [cv (pvR 0), cv (oI i), cv (oI n), cv (.inr (.inr none))]) (ys := []) ⟨by show 2 ≤ _; omega, ⟨⟨pvR 0, l0, rfl, rfl, ok_0⟩, ⟨oI i, l1, rfl, rfl, ok_full32 _⟩, ⟨oI n, l2, rfl, rfl, ok_full32 _⟩, ⟨.inr (.inr none), l3, rfl, rfl, ok_nul⟩, trivial⟩, trivial, fun c hc => absurd hc List.not_mem_nil⟩ (by omega) (fun o G1 X1 M1 P1 => ?_)
    obtain ⟨o1, o2⟩ := o
    obtain ⟨rfl, -⟩ := po_c P1
    exact hR _ G1 X1 (f_M_0 M1) (fun u v => cF_M0 M1 u v) (fun z => c0 z.1)
set_option maxHeartbeats 2000000 in
theorem cty_run {d : Nat} (hd : 18 ≤ d) (hd2 : d ≤ 1000000) {g : pH} (hG : g_I eG g) (hx : xL g) {n : Int} (hn : -2147483648 ≤ n ∧ n ≤ 2147483647) {P : Option pv × pH → Prop} (hA : ∀ (v : Int32) (g1 : pH), g_I eG g1 → xL g1 → f_M kcty_a.2.2.2.1 g g1 → cF g1 0 1 = 0 → (1 ≤ n ∧ n ≤ 120) ∧ n ≤ cF g 0 1 → P (some (.inl v), g1)) (hR : ∀ (g1 : pH), g_I eG g1 → xL g1 → f_M kcty_a.2.2.2.1 g g1 → (∀ u v, cF g1 u v = cF g u v) → ¬ ((1 ≤ n ∧ n ≤ 120) ∧ n ≤ cF g 0 1) → P (some (oI (-1)), g1)) {lv : List (Nat × pv)} (l0 : px_lg lv 0 = some (pvR 0)) (l1 : px_lg lv 1 = some (oI n)) : t_X d 157 0 lv [] g P := by
  have hJ : J_ 0 g g := J_rf hG
  have hb := cb_0_1 hG
  by_cases a0 : n < 1
  · refine mid_L (k := kcty_1) ecty_1 hG hx (xs := [cv (pvR 0), cv (oI n)]) (ys := []) ⟨by show 18 ≤ _; omega, ⟨⟨pvR 0, l0, rfl, rfl, ok_0⟩, ⟨oI n, l1, rfl, rfl, ok_oI (by omega) (by decide) (by decide)⟩, trivial⟩, trivial, fun c hc => absurd hc List.not_mem_nil⟩ (by omega) (fun o G1 X1 M1 P1 => ?_)
    obtain ⟨o1, o2⟩ := o
    obtain ⟨rfl, -⟩ := po_c P1
    exact hR _ G1 X1 (f_M_0 M1) (fun u v => cF_M0 M1 u v) (fun z => by omega)
  · skip
    by_cases a1 : 120 < n
    · refine mid_L (k := kcty_2) ecty_2 hG hx (xs := [cv (pvR 0), cv (oI n)]) (ys := []) ⟨by show 18 ≤ _; omega, ⟨⟨pvR 0, l0, rfl, rfl, ok_0⟩, ⟨oI n, l1, rfl, rfl, ok_oI (by omega) (by decide) (by decide)⟩, trivial⟩, trivial, fun c hc => absurd hc List.not_mem_nil⟩ (by omega) (fun o G1 X1 M1 P1 => ?_)
      obtain ⟨o1, o2⟩ := o
      obtain ⟨rfl, -⟩ := po_c P1
      exact hR _ G1 X1 (f_M_0 M1) (fun u v => cF_M0 M1 u v) (fun z => by omega)
    · skip
      by_cases a2 : cF g 0 1 < n
      · refine mid_L (k := kcty_3) ecty_3 hG hx (xs := [cv (pvR 0), cv (oI n)]) (ys := [cF g 0 1]) ⟨by show 18 ≤ _; omega, ⟨⟨pvR 0, l0, rfl, rfl, ok_0⟩, ⟨oI n, l1, rfl, rfl, ok_oI (by omega) (by decide) (by decide)⟩, trivial⟩, ⟨⟨.inl (g.1 0 1), hc_i er_0 (Nat.le_of_ble_eq_true rfl) rfl, rfl, rfl, ⟨hb.1, hb.2, Or.inl rfl⟩⟩, trivial⟩, fun c hc => by obtain rfl := List.mem_singleton.mp hc; exact ⟨_, ⟨_, rfl, rfl⟩, by show (1 : Int) + ((-1) * cv (oI n) + (1 * cF g 0 1 + 0)) ≤ 0; rw [cv_oI (a := n) (by omega)]; omega⟩⟩ (by omega) (fun o G1 X1 M1 P1 => ?_)
        obtain ⟨o1, o2⟩ := o
        obtain ⟨rfl, -⟩ := po_c P1
        exact hR _ G1 X1 (f_M_0 M1) (fun u v => cF_M0 M1 u v) (fun z => by omega)
      · skip
        refine mid_L (k := kcty_a) ecty_a hG hx (xs := [cv (pvR 0), cv (oI n)]) (ys := [cF g 0 1]) ⟨by show 18 ≤ _; omega, ⟨⟨pvR 0, l0, rfl, rfl, ok_0⟩, ⟨oI n, l1, rfl, rfl, ok_oI (by omega) (by decide) (by decide)⟩, trivial⟩, ⟨⟨.inl (g.1 0 1), hc_i er_0 (Nat.le_of_ble_eq_true rfl) rfl, rfl, rfl, ⟨hb.1, hb.2, Or.inl rfl⟩⟩, trivial⟩, fun c hc => by obtain rfl := List.mem_singleton.mp hc; exact ⟨_, ⟨_, rfl, rfl⟩, by show (0 : Int) + (1 * cv (oI n) + ((-1) * cF g 0 1 + 0)) ≤ 0; rw [cv_oI (a := n) (by omega)]; omega⟩⟩ (by omega) (fun o G1 X1 M1 P1 => ?_)
        obtain ⟨o1, o2⟩ := o
        obtain ⟨z, rfl, hz, ys, hF⟩ := po_i P1
        exact hA _ _ G1 X1 M1 (fa_i er_0 (Nat.le_of_ble_eq_true rfl) rfl hF) (by omega)
set_option maxHeartbeats 2000000 in
theorem clw_run {d : Nat} (hd : 35 ≤ d) (hd2 : d ≤ 1000000) {g : pH} (hG : g_I eG g) (hx : xL g) {n : Int} (hn : -2147483648 ≤ n ∧ n ≤ 2147483647) {P : Option pv × pH → Prop} (hA : ∀ (v : Int32) (g1 : pH), g_I eG g1 → xL g1 → f_M kclw_a.2.2.2.1 g g1 → cF g1 0 1 = 0 → (1 ≤ n ∧ n ≤ 240) ∧ n ≤ cF g 0 1 → P (some (.inl v), g1)) (hR : ∀ (g1 : pH), g_I eG g1 → xL g1 → f_M kclw_a.2.2.2.1 g g1 → (∀ u v, cF g1 u v = cF g u v) → ¬ ((1 ≤ n ∧ n ≤ 240) ∧ n ≤ cF g 0 1) → P (some (oI (-1)), g1)) {lv : List (Nat × pv)} (l0 : px_lg lv 0 = some (pvR 0)) (l1 : px_lg lv 1 = some (oI n)) : t_X d 129 0 lv [] g P := by
  have hJ : J_ 0 g g := J_rf hG
  have hb := cb_0_1 hG
  by_cases a0 : n < 1
  · refine mid_L (k := kclw_1) eclw_1 hG hx (xs := [cv (pvR 0), cv (oI n)]) (ys := []) ⟨by show 35 ≤ _; omega, ⟨⟨pvR 0, l0, rfl, rfl, ok_0⟩, ⟨oI n, l1, rfl, rfl, ok_oI (by omega) (by decide) (by decide)⟩, trivial⟩, trivial, fun c hc => absurd hc List.not_mem_nil⟩ (by omega) (fun o G1 X1 M1 P1 => ?_)
    obtain ⟨o1, o2⟩ := o
    obtain ⟨rfl, -⟩ := po_c P1
    exact hR _ G1 X1 (f_M_0 M1) (fun u v => cF_M0 M1 u v) (fun z => by omega)
  · skip
    by_cases a1 : 240 < n
    · refine mid_L (k := kclw_2) eclw_2 hG hx (xs := [cv (pvR 0), cv (oI n)]) (ys := []) ⟨by show 35 ≤ _; omega, ⟨⟨pvR 0, l0, rfl, rfl, ok_0⟩, ⟨oI n, l1, rfl, rfl, ok_oI (by omega) (by decide) (by decide)⟩, trivial⟩, trivial, fun c hc => absurd hc List.not_mem_nil⟩ (by omega) (fun o G1 X1 M1 P1 => ?_)
      obtain ⟨o1, o2⟩ := o
      obtain ⟨rfl, -⟩ := po_c P1
      exact hR _ G1 X1 (f_M_0 M1) (fun u v => cF_M0 M1 u v) (fun z => by omega)
    · skip
      by_cases a2 : cF g 0 1 < n
      · refine mid_L (k := kclw_3) eclw_3 hG hx (xs := [cv (pvR 0), cv (oI n)]) (ys := [cF g 0 1]) ⟨by show 35 ≤ _; omega, ⟨⟨pvR 0, l0, rfl, rfl, ok_0⟩, ⟨oI n, l1, rfl, rfl, ok_oI (by omega) (by decide) (by decide)⟩, trivial⟩, ⟨⟨.inl (g.1 0 1), hc_i er_0 (Nat.le_of_ble_eq_true rfl) rfl, rfl, rfl, ⟨hb.1, hb.2, Or.inl rfl⟩⟩, trivial⟩, fun c hc => by obtain rfl := List.mem_singleton.mp hc; exact ⟨_, ⟨_, rfl, rfl⟩, by show (1 : Int) + ((-1) * cv (oI n) + (1 * cF g 0 1 + 0)) ≤ 0; rw [cv_oI (a := n) (by omega)]; omega⟩⟩ (by omega) (fun o G1 X1 M1 P1 => ?_)
        obtain ⟨o1, o2⟩ := o
        obtain ⟨rfl, -⟩ := po_c P1
        exact hR _ G1 X1 (f_M_0 M1) (fun u v => cF_M0 M1 u v) (fun z => by omega)
      · skip
        refine mid_L (k := kclw_a) eclw_a hG hx (xs := [cv (pvR 0), cv (oI n)]) (ys := [cF g 0 1]) ⟨by show 35 ≤ _; omega, ⟨⟨pvR 0, l0, rfl, rfl, ok_0⟩, ⟨oI n, l1, rfl, rfl, ok_oI (by omega) (by decide) (by decide)⟩, trivial⟩, ⟨⟨.inl (g.1 0 1), hc_i er_0 (Nat.le_of_ble_eq_true rfl) rfl, rfl, rfl, ⟨hb.1, hb.2, Or.inl rfl⟩⟩, trivial⟩, fun c hc => by obtain rfl := List.mem_singleton.mp hc; exact ⟨_, ⟨_, rfl, rfl⟩, by show (0 : Int) + (1 * cv (oI n) + ((-1) * cF g 0 1 + 0)) ≤ 0; rw [cv_oI (a := n) (by omega)]; omega⟩⟩ (by omega) (fun o G1 X1 M1 P1 => ?_)
        obtain ⟨o1, o2⟩ := o
        obtain ⟨z, rfl, hz, ys, hF⟩ := po_i P1
        exact hA _ _ G1 X1 M1 (fa_i er_0 (Nat.le_of_ble_eq_true rfl) rfl hF) (by omega)
set_option maxHeartbeats 2000000 in
theorem csp_run {d : Nat} (hd : 4 ≤ d) (hd2 : d ≤ 1000000) {g : pH} (hG : g_I eG g) (hx : xL g) {n w : Int} (hn : -2147483648 ≤ n ∧ n ≤ 2147483647) (hw : -2147483648 ≤ w ∧ w ≤ 2147483647) {P : Option pv × pH → Prop} (hA : ∀ (v : Int64) (g1 : pH), g_I eG g1 → xL g1 → f_M kcsp_a.2.2.2.1 g g1 → cF g1 0 1 = 0 → (2 ≤ n ∧ n ≤ 12) ∧ n ≤ cF g 0 1 → P (some (.inr (.inl v)), g1)) (hR : ∀ (z : Int64) (g1 : pH), g_I eG g1 → xL g1 → f_M kcsp_a.2.2.2.1 g g1 → (∀ u v, cF g1 u v = cF g u v) → ¬ ((2 ≤ n ∧ n ≤ 12) ∧ n ≤ cF g 0 1) → P (some (.inr (.inl z)), g1)) {lv : List (Nat × pv)} (l0 : px_lg lv 0 = some (pvR 0)) (l1 : px_lg lv 1 = some (oI n)) (l2 : px_lg lv 2 = some (oI w)) : t_X d 149 0 lv [] g P := by
  have hJ : J_ 0 g g := J_rf hG
  have hb := cb_0_1 hG
  by_cases a0 : n < 2
  · refine mid_L (k := kcsp_1) ecsp_1 hG hx (xs := [cv (pvR 0), cv (oI n), cv (oI w)]) (ys := []) ⟨by show 4 ≤ _; omega, ⟨⟨pvR 0, l0, rfl, rfl, ok_0⟩, ⟨oI n, l1, rfl, rfl, ok_oI (by omega) (by decide) (by decide)⟩, ⟨oI w, l2, rfl, rfl, ok_full32 _⟩, trivial⟩, trivial, fun c hc => absurd hc List.not_mem_nil⟩ (by omega) (fun o G1 X1 M1 P1 => ?_)
    obtain ⟨o1, o2⟩ := o
    obtain ⟨z, rfl, -⟩ := po_l P1
    exact hR _ _ G1 X1 (f_M_0 M1) (fun u v => cF_M0 M1 u v) (fun z => by omega)
  · skip
    by_cases a1 : 12 < n
    · refine mid_L (k := kcsp_2) ecsp_2 hG hx (xs := [cv (pvR 0), cv (oI n), cv (oI w)]) (ys := []) ⟨by show 4 ≤ _; omega, ⟨⟨pvR 0, l0, rfl, rfl, ok_0⟩, ⟨oI n, l1, rfl, rfl, ok_oI (by omega) (by decide) (by decide)⟩, ⟨oI w, l2, rfl, rfl, ok_full32 _⟩, trivial⟩, trivial, fun c hc => absurd hc List.not_mem_nil⟩ (by omega) (fun o G1 X1 M1 P1 => ?_)
      obtain ⟨o1, o2⟩ := o
      obtain ⟨z, rfl, -⟩ := po_l P1
      exact hR _ _ G1 X1 (f_M_0 M1) (fun u v => cF_M0 M1 u v) (fun z => by omega)
    · skip
      by_cases a2 : cF g 0 1 < n
      · refine mid_L (k := kcsp_3) ecsp_3 hG hx (xs := [cv (pvR 0), cv (oI n), cv (oI w)]) (ys := [cF g 0 1]) ⟨by show 4 ≤ _; omega, ⟨⟨pvR 0, l0, rfl, rfl, ok_0⟩, ⟨oI n, l1, rfl, rfl, ok_oI (by omega) (by decide) (by decide)⟩, ⟨oI w, l2, rfl, rfl, ok_full32 _⟩, trivial⟩, ⟨⟨.inl (g.1 0 1), hc_i er_0 (Nat.le_of_ble_eq_true rfl) rfl, rfl, rfl, ⟨hb.1, hb.2, Or.inl rfl⟩⟩, trivial⟩, fun c hc => by obtain rfl := List.mem_singleton.mp hc; exact ⟨_, ⟨_, rfl, rfl⟩, by show (1 : Int) + ((-1) * cv (oI n) + (1 * cF g 0 1 + 0)) ≤ 0; rw [cv_oI (a := n) (by omega)]; omega⟩⟩ (by omega) (fun o G1 X1 M1 P1 => ?_)
        obtain ⟨o1, o2⟩ := o
        obtain ⟨z, rfl, -⟩ := po_l P1
        exact hR _ _ G1 X1 (f_M_0 M1) (fun u v => cF_M0 M1 u v) (fun z => by omega)
      · skip
        refine mid_L (k := kcsp_a) ecsp_a hG hx (xs := [cv (pvR 0), cv (oI n), cv (oI w)]) (ys := [cF g 0 1]) ⟨by show 4 ≤ _; omega, ⟨⟨pvR 0, l0, rfl, rfl, ok_0⟩, ⟨oI n, l1, rfl, rfl, ok_oI (by omega) (by decide) (by decide)⟩, ⟨oI w, l2, rfl, rfl, ok_full32 _⟩, trivial⟩, ⟨⟨.inl (g.1 0 1), hc_i er_0 (Nat.le_of_ble_eq_true rfl) rfl, rfl, rfl, ⟨hb.1, hb.2, Or.inl rfl⟩⟩, trivial⟩, fun c hc => by obtain rfl := List.mem_singleton.mp hc; exact ⟨_, ⟨_, rfl, rfl⟩, by show (0 : Int) + (1 * cv (oI n) + ((-1) * cF g 0 1 + 0)) ≤ 0; rw [cv_oI (a := n) (by omega)]; omega⟩⟩ (by omega) (fun o G1 X1 M1 P1 => ?_)
        obtain ⟨o1, o2⟩ := o
        obtain ⟨z, rfl, ys, hF⟩ := po_l P1
        exact hA _ _ G1 X1 M1 (fa_i er_0 (Nat.le_of_ble_eq_true rfl) rfl hF) (by omega)
set_option maxHeartbeats 2000000 in
theorem csy_run {d : Nat} (hd : 4 ≤ d) (hd2 : d ≤ 1000000) {g : pH} (hG : g_I eG g) (hx : xL g) {n i j w : Int} (hn : -2147483648 ≤ n ∧ n ≤ 2147483647) (hi : -2147483648 ≤ i ∧ i ≤ 2147483647) (hj : -2147483648 ≤ j ∧ j ≤ 2147483647) (hw : -2147483648 ≤ w ∧ w ≤ 2147483647) {P : Option pv × pH → Prop} (hA : ∀ (v : Int64) (g1 : pH), g_I eG g1 → xL g1 → f_M kcsy_a.2.2.2.1 g g1 → cF g1 0 1 = 0 → (2 ≤ n ∧ n ≤ 12) ∧ (0 ≤ w ∧ w ≤ 3) ∧ n ≤ cF g 0 1 → P (some (.inr (.inl v)), g1)) (hR : ∀ (z : Int64) (g1 : pH), g_I eG g1 → xL g1 → f_M kcsy_a.2.2.2.1 g g1 → (∀ u v, cF g1 u v = cF g u v) → ¬ ((2 ≤ n ∧ n ≤ 12) ∧ (0 ≤ w ∧ w ≤ 3) ∧ n ≤ cF g 0 1) → P (some (.inr (.inl z)), g1)) {lv : List (Nat × pv)} (l0 : px_lg lv 0 = some (pvR 0)) (l1 : px_lg lv 1 = some (oI n)) (l2 : px_lg lv 2 = some (oI i)) (l3 : px_lg lv 3 = some (oI j)) (l4 : px_lg lv 4 = some (oI w)) : t_X d 142 0 lv [] g P := by
  have hJ : J_ 0 g g := J_rf hG
  have hb := cb_0_1 hG
  by_cases a0 : n < 2
  · refine mid_L (k := kcsy_1) ecsy_1 hG hx (xs := [cv (pvR 0), cv (oI n), cv (oI i), cv (oI j), cv (oI w)]) (ys := []) ⟨by show 4 ≤ _; omega, ⟨⟨pvR 0, l0, rfl, rfl, ok_0⟩, ⟨oI n, l1, rfl, rfl, ok_oI (by omega) (by decide) (by decide)⟩, ⟨oI i, l2, rfl, rfl, ok_full32 _⟩, ⟨oI j, l3, rfl, rfl, ok_full32 _⟩, ⟨oI w, l4, rfl, rfl, ok_full32 _⟩, trivial⟩, trivial, fun c hc => absurd hc List.not_mem_nil⟩ (by omega) (fun o G1 X1 M1 P1 => ?_)
    obtain ⟨o1, o2⟩ := o
    obtain ⟨z, rfl, -⟩ := po_l P1
    exact hR _ _ G1 X1 (f_M_0 M1) (fun u v => cF_M0 M1 u v) (fun z => by omega)
  · skip
    by_cases a1 : 12 < n
    · refine mid_L (k := kcsy_2) ecsy_2 hG hx (xs := [cv (pvR 0), cv (oI n), cv (oI i), cv (oI j), cv (oI w)]) (ys := []) ⟨by show 4 ≤ _; omega, ⟨⟨pvR 0, l0, rfl, rfl, ok_0⟩, ⟨oI n, l1, rfl, rfl, ok_oI (by omega) (by decide) (by decide)⟩, ⟨oI i, l2, rfl, rfl, ok_full32 _⟩, ⟨oI j, l3, rfl, rfl, ok_full32 _⟩, ⟨oI w, l4, rfl, rfl, ok_full32 _⟩, trivial⟩, trivial, fun c hc => absurd hc List.not_mem_nil⟩ (by omega) (fun o G1 X1 M1 P1 => ?_)
      obtain ⟨o1, o2⟩ := o
      obtain ⟨z, rfl, -⟩ := po_l P1
      exact hR _ _ G1 X1 (f_M_0 M1) (fun u v => cF_M0 M1 u v) (fun z => by omega)
    · skip
      by_cases a2 : w < 0
      · refine mid_L (k := kcsy_3) ecsy_3 hG hx (xs := [cv (pvR 0), cv (oI n), cv (oI i), cv (oI j), cv (oI w)]) (ys := []) ⟨by show 4 ≤ _; omega, ⟨⟨pvR 0, l0, rfl, rfl, ok_0⟩, ⟨oI n, l1, rfl, rfl, ok_full32 _⟩, ⟨oI i, l2, rfl, rfl, ok_full32 _⟩, ⟨oI j, l3, rfl, rfl, ok_full32 _⟩, ⟨oI w, l4, rfl, rfl, ok_oI (by omega) (by decide) (by decide)⟩, trivial⟩, trivial, fun c hc => absurd hc List.not_mem_nil⟩ (by omega) (fun o G1 X1 M1 P1 => ?_)
        obtain ⟨o1, o2⟩ := o
        obtain ⟨z, rfl, -⟩ := po_l P1
        exact hR _ _ G1 X1 (f_M_0 M1) (fun u v => cF_M0 M1 u v) (fun z => by omega)
      · skip
        by_cases a3 : 3 < w
        · refine mid_L (k := kcsy_4) ecsy_4 hG hx (xs := [cv (pvR 0), cv (oI n), cv (oI i), cv (oI j), cv (oI w)]) (ys := []) ⟨by show 4 ≤ _; omega, ⟨⟨pvR 0, l0, rfl, rfl, ok_0⟩, ⟨oI n, l1, rfl, rfl, ok_full32 _⟩, ⟨oI i, l2, rfl, rfl, ok_full32 _⟩, ⟨oI j, l3, rfl, rfl, ok_full32 _⟩, ⟨oI w, l4, rfl, rfl, ok_oI (by omega) (by decide) (by decide)⟩, trivial⟩, trivial, fun c hc => absurd hc List.not_mem_nil⟩ (by omega) (fun o G1 X1 M1 P1 => ?_)
          obtain ⟨o1, o2⟩ := o
          obtain ⟨z, rfl, -⟩ := po_l P1
          exact hR _ _ G1 X1 (f_M_0 M1) (fun u v => cF_M0 M1 u v) (fun z => by omega)
        · skip
          by_cases a4 : cF g 0 1 < n
          · refine mid_L (k := kcsy_5) ecsy_5 hG hx (xs := [cv (pvR 0), cv (oI n), cv (oI i), cv (oI j), cv (oI w)]) (ys := [cF g 0 1]) ⟨by show 4 ≤ _; omega, ⟨⟨pvR 0, l0, rfl, rfl, ok_0⟩, ⟨oI n, l1, rfl, rfl, ok_oI (by omega) (by decide) (by decide)⟩, ⟨oI i, l2, rfl, rfl, ok_full32 _⟩, ⟨oI j, l3, rfl, rfl, ok_full32 _⟩, ⟨oI w, l4, rfl, rfl, ok_oI (by omega) (by decide) (by decide)⟩, trivial⟩, ⟨⟨.inl (g.1 0 1), hc_i er_0 (Nat.le_of_ble_eq_true rfl) rfl, rfl, rfl, ⟨hb.1, hb.2, Or.inl rfl⟩⟩, trivial⟩, fun c hc => by obtain rfl := List.mem_singleton.mp hc; exact ⟨_, ⟨_, rfl, rfl⟩, by show (1 : Int) + ((-1) * cv (oI n) + (1 * cF g 0 1 + 0)) ≤ 0; rw [cv_oI (a := n) (by omega)]; omega⟩⟩ (by omega) (fun o G1 X1 M1 P1 => ?_)
            obtain ⟨o1, o2⟩ := o
            obtain ⟨z, rfl, -⟩ := po_l P1
            exact hR _ _ G1 X1 (f_M_0 M1) (fun u v => cF_M0 M1 u v) (fun z => by omega)
          · skip
            refine mid_L (k := kcsy_a) ecsy_a hG hx (xs := [cv (pvR 0), cv (oI n), cv (oI i), cv (oI j), cv (oI w)]) (ys := [cF g 0 1]) ⟨by show 4 ≤ _; omega, ⟨⟨pvR 0, l0, rfl, rfl, ok_0⟩, ⟨oI n, l1, rfl, rfl, ok_oI (by omega) (by decide) (by decide)⟩, ⟨oI i, l2, rfl, rfl, ok_full32 _⟩, ⟨oI j, l3, rfl, rfl, ok_full32 _⟩, ⟨oI w, l4, rfl, rfl, ok_oI (by omega) (by decide) (by decide)⟩, trivial⟩, ⟨⟨.inl (g.1 0 1), hc_i er_0 (Nat.le_of_ble_eq_true rfl) rfl, rfl, rfl, ⟨hb.1, hb.2, Or.inl rfl⟩⟩, trivial⟩, fun c hc => by obtain rfl := List.mem_singleton.mp hc; exact ⟨_, ⟨_, rfl, rfl⟩, by show (0 : Int) + (1 * cv (oI n) + ((-1) * cF g 0 1 + 0)) ≤ 0; rw [cv_oI (a := n) (by omega)]; omega⟩⟩ (by omega) (fun o G1 X1 M1 P1 => ?_)
            obtain ⟨o1, o2⟩ := o
            obtain ⟨z, rfl, ys, hF⟩ := po_l P1
            exact hA _ _ G1 X1 M1 (fa_i er_0 (Nat.le_of_ble_eq_true rfl) rfl hF) (by omega)
end
section
/-! the tie: told slides of the reference (printed by wip/e2/t3.py) -/
theorem qbi_0 : xe_look (xc 171) 0 = some (.iconst 0, 1, 0, 0, 0) := by decide +kernel
theorem qbi_1 : xe_look (xc 171) 1 = some (.istore_n 1, 1, 0, 0, 0) := by decide +kernel
theorem qbi_2 : xe_look (xc 171) 2 = some (.iconst 0, 1, 0, 0, 0) := by decide +kernel
theorem qbi_3 : xe_look (xc 171) 3 = some (.istore_n 2, 1, 0, 0, 0) := by decide +kernel
theorem qbi_4 : xe_look (xc 171) 4 = some (.iload_n 2, 1, 0, 0, 0) := by decide +kernel
theorem qbi_5 : xe_look (xc 171) 5 = some (.bipush 32, 2, 0, 0, 0) := by decide +kernel
theorem qbi_7 : xe_look (xc 171) 7 = some (.if_icmp .ge 17, 3, 0, 0, 0) := by decide +kernel
theorem qbi_10 : xe_look (xc 171) 10 = some (.iload_n 1, 1, 0, 0, 0) := by decide +kernel
theorem qbi_11 : xe_look (xc 171) 11 = some (.iload_n 0, 1, 0, 0, 0) := by decide +kernel
theorem qbi_12 : xe_look (xc 171) 12 = some (.iload_n 2, 1, 0, 0, 0) := by decide +kernel
theorem qbi_13 : xe_look (xc 171) 13 = some (.ishr, 1, 0, 0, 0) := by decide +kernel
theorem qbi_14 : xe_look (xc 171) 14 = some (.iconst 1, 1, 0, 0, 0) := by decide +kernel
theorem qbi_15 : xe_look (xc 171) 15 = some (.iand, 1, 0, 0, 0) := by decide +kernel
theorem qbi_16 : xe_look (xc 171) 16 = some (.iadd, 1, 0, 0, 0) := by decide +kernel
theorem qbi_17 : xe_look (xc 171) 17 = some (.istore_n 1, 1, 0, 0, 0) := by decide +kernel
theorem qbi_18 : xe_look (xc 171) 18 = some (.iinc 2 1, 3, 0, 0, 0) := by decide +kernel
theorem qbi_21 : xe_look (xc 171) 21 = some (.goto (-17), 3, 0, 0, 0) := by decide +kernel
theorem qbi_24 : xe_look (xc 171) 24 = some (.iload_n 1, 1, 0, 0, 0) := by decide +kernel
theorem qbi_25 : xe_look (xc 171) 25 = some (.ireturn, 1, 0, 0, 0) := by decide +kernel
theorem qit_0 : xe_look (xc 205) 0 = some (.iload_n 1, 1, 0, 0, 0) := by decide +kernel
theorem qit_1 : xe_look (xc 205) 1 = some (.ifCond .lt 24, 3, 0, 0, 0) := by decide +kernel
theorem qit_4 : xe_look (xc 205) 4 = some (.iload_n 1, 1, 0, 0, 0) := by decide +kernel
theorem qit_5 : xe_look (xc 205) 5 = some (.bipush 32, 2, 0, 0, 0) := by decide +kernel
theorem qit_7 : xe_look (xc 205) 7 = some (.if_icmp .ge 18, 3, 0, 0, 0) := by decide +kernel
theorem qit_10 : xe_look (xc 205) 10 = some (.aload_n 0, 1, 0, 0, 0) := by decide +kernel
theorem qit_11 : xe_look (xc 205) 11 = some (.getfield 183, 3, 12, 0, 1158) := by decide +kernel
theorem qit_14 : xe_look (xc 205) 14 = some (.iload_n 1, 1, 0, 0, 0) := by decide +kernel
theorem qit_15 : xe_look (xc 205) 15 = some (.invokestatic 187, 3, 0, 196, 1121) := by decide +kernel
theorem qit_18 : xe_look (xc 205) 18 = some (.ifCond .eq 7, 3, 0, 0, 0) := by decide +kernel
theorem qit_21 : xe_look (xc 205) 21 = some (.iconst 1, 1, 0, 0, 0) := by decide +kernel
theorem qit_22 : xe_look (xc 205) 22 = some (.goto 4, 3, 0, 0, 0) := by decide +kernel
theorem qit_25 : xe_look (xc 205) 25 = some (.iconst 0, 1, 0, 0, 0) := by decide +kernel
theorem qit_26 : xe_look (xc 205) 26 = some (.ireturn, 1, 0, 0, 0) := by decide +kernel
def bM (g : pH) (m : Nat) : Prop := (g.1 196 0).toBitVec.getLsbD m = true
def toM (g : pH) (i : Int) : Prop := ∃ m : Nat, m < 32 ∧ i = m ∧ bM g m
theorem bM_has {g : pH} {m : Nat} (hm : m < 32) : (Int32.ofInt (fF g 0) >>> (Int32.ofInt (m : Int) &&& 31)) &&& Int32.ofInt 1 = Int32.ofInt 1 ↔ bM g m := by
  rw [show Int32.ofInt (fF g 0) = g.1 196 0 from Int32.ofInt_toInt _, ← nI_o]
  exact bt_has hm
theorem it_run {d : Nat} (hd : 1 ≤ d) {g : pH} {i : Int} (hi : -2147483648 ≤ i ∧ i ≤ 2147483647) {P : Option pv × pH → Prop} {lv : List (Nat × pv)} (l0 : px_lg lv 0 = some (pvR 196)) (l1 : px_lg lv 1 = some (oI i)) (h1 : ∀ m : Nat, m < 32 → i = m → bM g m → P (some (oI 1), g)) (h0 : ¬ toM g i → P (some (oI 0), g)) : t_X d 205 0 lv [] g P := by
  by_cases hr : 0 ≤ i ∧ i ≤ 31
  · obtain ⟨m, rfl⟩ : ∃ m : Nat, i = m := ⟨i.toNat, by omega⟩
    have hm : m < 32 := by omega
    refine t_0 qit_0 rfl (ld_i l1) ?_
    refine tz_lt qit_1 (by decide) ⟨by omega, by omega⟩ (fun c1 => absurd c1 (by omega)) (fun c1 => ?_)
    show t_X d 205 4 lv [] g P
    refine t_0 qit_4 rfl (ld_i l1) ?_
    refine t_0 qit_5 rfl (pq_b (by decide)) ?_
    refine tb_ge qit_7 (by decide) ⟨by omega, by omega⟩ ⟨by omega, by omega⟩ (fun c2 => absurd c2 (by omega)) (fun c2 => ?_)
    show t_X d 205 10 lv [] g P
    refine t_0 qit_10 rfl (ld_a l0) ?_
    have r3 := fF_b g 0
    refine t_0 qit_11 rfl (pq_gf (y := 0) rfl) ?_
    refine t_0 qit_14 rfl (ld_i l1) ?_
    refine t_3 qit_15 rfl (ar := ([oI (fF g 0), oI ((m : Int))], [])) (pcal_s ⟨Or.inl rfl, rfl, Nat.le_of_ble_eq_true rfl⟩) ⟨by omega, Nat.le_of_ble_eq_true rfl, Nat.le_of_ble_eq_true rfl, rfl⟩ ?_
    refine has_run (fun t4 => ?_) (fun t4 => ?_)
    · have t2 := (bM_has hm).mp t4
      show t_X d 205 18 lv [oI (1)] g P
      refine tz_eq qit_18 (by decide) ⟨by omega, by omega⟩ (fun c5 => absurd c5 (by omega)) (fun c5 => ?_)
      show t_X d 205 21 lv [] g P
      refine t_0 qit_21 rfl rfl ?_
      refine t_1 qit_22 rfl (pb_goto (pc := 22) (by decide)) ?_
      show t_X d 205 26 lv [oI (1)] g P
      refine t_5 qit_26 rfl rfl ?_
      exact h1 m hm rfl t2
    · have t2 : ¬ bM g m := fun z => t4 ((bM_has hm).mpr z)
      show t_X d 205 18 lv [oI (0)] g P
      refine tz_eq qit_18 (by decide) ⟨by omega, by omega⟩ (fun c6 => ?_) (fun c6 => absurd c6 (by omega))
      show t_X d 205 25 lv [] g P
      refine t_0 qit_25 rfl rfl ?_
      refine t_5 qit_26 rfl rfl ?_
      exact h0 (fun z => by obtain ⟨m9, z1, z2, z3⟩ := z; rw [show m9 = m by omega] at z3; exact t2 z3)
  by_cases hr1 : i < 0
  · skip
    refine t_0 qit_0 rfl (ld_i l1) ?_
    refine tz_lt qit_1 (by decide) ⟨by omega, by omega⟩ (fun c1 => ?_) (fun c1 => absurd c1 (by omega))
    show t_X d 205 25 lv [] g P
    refine t_0 qit_25 rfl rfl ?_
    refine t_5 qit_26 rfl rfl ?_
    exact h0 (fun z => by obtain ⟨m9, z1, z2, z3⟩ := z; omega)
  · have hr2 : 31 < i := by omega
    refine t_0 qit_0 rfl (ld_i l1) ?_
    refine tz_lt qit_1 (by decide) ⟨by omega, by omega⟩ (fun c1 => absurd c1 (by omega)) (fun c1 => ?_)
    show t_X d 205 4 lv [] g P
    refine t_0 qit_4 rfl (ld_i l1) ?_
    refine t_0 qit_5 rfl (pq_b (by decide)) ?_
    refine tb_ge qit_7 (by decide) ⟨by omega, by omega⟩ ⟨by omega, by omega⟩ (fun c2 => ?_) (fun c2 => absurd c2 (by omega))
    show t_X d 205 25 lv [] g P
    refine t_0 qit_25 rfl rfl ?_
    refine t_5 qit_26 rfl rfl ?_
    exact h0 (fun z => by obtain ⟨m9, z1, z2, z3⟩ := z; omega)
def cbr (b : Int32) : Nat → Int32
  | 0 => Int32.ofInt 0
  | n + 1 => cbr b n + (b >>> (Int32.ofInt (n : Int) &&& 31) &&& Int32.ofInt 1)
def bz (b : Int32) (j : Nat) : Int := if b.toBitVec.getLsbD j = true then 1 else 0
theorem bz_at {b : Int32} {j : Nat} (h : j < 32) : b >>> (Int32.ofInt (j : Int) &&& 31) &&& Int32.ofInt 1 = Int32.ofInt (bz b j) := by
  rw [← nI_o, bt_and h, ← Int32.toBitVec_inj, Int32.toBitVec_and, Int32.toBitVec_shiftRight]
  have e1 : (Int32.ofInt 1).toBitVec = 1#32 := by decide
  rw [e1, BitVec.and_one_eq_setWidth_ofBool_getLsbD, BitVec.sshiftRight', BitVec.getLsbD_sshiftRight]
  have e2 := bt_mod h
  rw [e2, Nat.add_zero, if_pos h, show (!decide (32 ≤ 0)) = true from rfl, Bool.true_and]
  unfold bz
  cases b.toBitVec.getLsbD j <;> decide
theorem cbr_eq {b : Int32} : ∀ {n : Nat}, n ≤ 32 → cbr b n = Int32.ofInt (ctl (bz b) n)
  | 0, _ => rfl
  | n + 1, h => by
    show cbr b n + _ = Int32.ofInt (ctl (bz b) n + bz b n)
    rw [cbr_eq (n := n) (by omega), bz_at (by omega), Int32.ofInt_add]
theorem bi_loop {d : Nat} {g : pH} {b : Int32} {P : Option pv × pH → Prop} (hP : P (some (.inl (cbr b 32)), g)) : ∀ (n m : Nat) (lv : List (Nat × pv)), 32 - m ≤ n → m ≤ 32 → px_lg lv 0 = some (.inl b) → px_lg lv 1 = some (.inl (cbr b m)) → px_lg lv 2 = some (oI (m : Int)) → t_X d 171 4 lv [] g P := by
  intro n
  induction n with
  | zero =>
    intro m lv hn hm l0 l1 l2
    have he : m = 32 := by omega
    subst he
    refine t_0 qbi_4 rfl (ld_i l2) ?_
    refine t_0 qbi_5 rfl (pq_b (by decide)) ?_
    refine tb_ge qbi_7 (by decide) ⟨by omega, by omega⟩ ⟨by omega, by omega⟩ (fun c1 => ?_) (fun c1 => absurd c1 (by omega))
    show t_X d 171 24 lv [] g P
    refine t_0 qbi_24 rfl (ld_i l1) ?_
    refine t_5 qbi_25 rfl rfl ?_
    exact hP
  | succ n ih =>
    intro m lv hn hm2 l0 l1 l2
    by_cases hm : m < 32
    · skip
      refine t_0 qbi_4 rfl (ld_i l2) ?_
      refine t_0 qbi_5 rfl (pq_b (by decide)) ?_
      refine tb_ge qbi_7 (by decide) ⟨by omega, by omega⟩ ⟨by omega, by omega⟩ (fun c1 => absurd c1 (by omega)) (fun c1 => ?_)
      show t_X d 171 10 lv [] g P
      refine t_0 qbi_10 rfl (ld_i l1) ?_
      refine t_0 qbi_11 rfl (ld_i l0) ?_
      refine t_0 qbi_12 rfl (ld_i l2) ?_
      refine t_0 qbi_13 rfl rfl ?_
      refine t_0 qbi_14 rfl rfl ?_
      refine t_0 qbi_15 rfl rfl ?_
      refine t_0 qbi_16 rfl rfl ?_
      refine t_2 qbi_17 rfl (w := (px_s1 lv 1 (.inl ((cbr b m) + (((b) >>> ((Int32.ofInt ((m : Int))) &&& 31)) &&& (Int32.ofInt (1))))), [])) rfl ?_
      replace l0 : px_lg (px_s1 lv 1 (.inl ((cbr b m) + (((b) >>> ((Int32.ofInt ((m : Int))) &&& 31)) &&& (Int32.ofInt (1)))))) 0 = some (.inl (b)) := s1_ne (by decide) (fun _ => rfl) l0
      replace l2 : px_lg (px_s1 lv 1 (.inl ((cbr b m) + (((b) >>> ((Int32.ofInt ((m : Int))) &&& 31)) &&& (Int32.ofInt (1)))))) 2 = some (oI ((m : Int))) := s1_ne (by decide) (fun _ => rfl) l2
      have l1 : px_lg (px_s1 lv 1 (.inl ((cbr b m) + (((b) >>> ((Int32.ofInt ((m : Int))) &&& 31)) &&& (Int32.ofInt (1)))))) 1 = some (.inl ((cbr b m) + (((b) >>> ((Int32.ofInt ((m : Int))) &&& 31)) &&& (Int32.ofInt (1))))) := s1_eq
      generalize px_s1 lv 1 (.inl ((cbr b m) + (((b) >>> ((Int32.ofInt ((m : Int))) &&& 31)) &&& (Int32.ofInt (1))))) = lv2 at l0 l2 l1 ⊢
      show t_X d 171 18 lv2 [] g P
      refine t_2 qbi_18 rfl (w := (px_s1 lv2 2 (oI ((m : Int) + 1)), [])) (pq_inc l2 (by decide)) ?_
      replace l0 : px_lg (px_s1 lv2 2 (oI ((m : Int) + 1))) 0 = some (.inl (b)) := s1_ne (by decide) (fun _ => rfl) l0
      replace l1 : px_lg (px_s1 lv2 2 (oI ((m : Int) + 1))) 1 = some (.inl ((cbr b m) + (((b) >>> ((Int32.ofInt ((m : Int))) &&& 31)) &&& (Int32.ofInt (1))))) := s1_ne (by decide) (fun _ => rfl) l1
      have l2 : px_lg (px_s1 lv2 2 (oI ((m : Int) + 1))) 2 = some (oI ((m : Int) + 1)) := s1_eq
      generalize px_s1 lv2 2 (oI ((m : Int) + 1)) = lv3 at l0 l1 l2 ⊢
      show t_X d 171 21 lv3 [] g P
      refine t_1 qbi_21 rfl (pb_goto (pc := 21) (by decide)) ?_
      show t_X d 171 4 lv3 [] g P
      exact ih (m + 1) _ (by omega) (by omega) l0 l1 l2
    · have he : m = 32 := by omega
      subst he
      refine t_0 qbi_4 rfl (ld_i l2) ?_
      refine t_0 qbi_5 rfl (pq_b (by decide)) ?_
      refine tb_ge qbi_7 (by decide) ⟨by omega, by omega⟩ ⟨by omega, by omega⟩ (fun c1 => ?_) (fun c1 => absurd c1 (by omega))
      show t_X d 171 24 lv [] g P
      refine t_0 qbi_24 rfl (ld_i l1) ?_
      refine t_5 qbi_25 rfl rfl ?_
      exact hP
theorem bi_run {d : Nat} {g : pH} {b : Int32} {P : Option pv × pH → Prop} (hP : P (some (oI (ctl (bz b) 32)), g)) {lv : List (Nat × pv)} (l0 : px_lg lv 0 = some (.inl b)) : t_X d 171 0 lv [] g P := by
  have hP : P (some (.inl (cbr b 32)), g) := by
    rw [cbr_eq (by decide)]
    exact hP
  refine t_0 qbi_0 rfl rfl ?_
  refine t_2 qbi_1 rfl (w := (px_s1 lv 1 (oI (0)), [])) rfl ?_
  replace l0 : px_lg (px_s1 lv 1 (oI (0))) 0 = some (.inl (b)) := s1_ne (by decide) (fun _ => rfl) l0
  have l1 : px_lg (px_s1 lv 1 (oI (0))) 1 = some (oI (0)) := s1_eq
  generalize px_s1 lv 1 (oI (0)) = lv1 at l0 l1 ⊢
  show t_X d 171 2 lv1 [] g P
  refine t_0 qbi_2 rfl rfl ?_
  refine t_2 qbi_3 rfl (w := (px_s1 lv1 2 (oI (0)), [])) rfl ?_
  replace l0 : px_lg (px_s1 lv1 2 (oI (0))) 0 = some (.inl (b)) := s1_ne (by decide) (fun _ => rfl) l0
  replace l1 : px_lg (px_s1 lv1 2 (oI (0))) 1 = some (oI (0)) := s1_ne (by decide) (fun _ => rfl) l1
  have l2 : px_lg (px_s1 lv1 2 (oI (0))) 2 = some (oI (0)) := s1_eq
  generalize px_s1 lv1 2 (oI (0)) = lv2 at l0 l1 l2 ⊢
  show t_X d 171 4 lv2 [] g P
  exact bi_loop hP 32 0 _ (by omega) (by omega) l0 l1 l2
end
section
/-! the tie: ops of the reference that ask for a told slide (printed by wip/e2/t3.py) -/
theorem qmch_0 : xe_look (xc 174) 0 = some (.aload_n 0, 1, 0, 0, 0) := by decide +kernel
theorem qmch_1 : xe_look (xc 174) 1 = some (.iload_n 1, 1, 0, 0, 0) := by decide +kernel
theorem qmch_2 : xe_look (xc 174) 2 = some (.invokevirtual 205, 3, 0, 205, 1130) := by decide +kernel
theorem qmch_5 : xe_look (xc 174) 5 = some (.ifCond .eq 21, 3, 0, 0, 0) := by decide +kernel
theorem qmch_26 : xe_look (xc 174) 26 = some (.bipush (-2), 2, 0, 0, 0) := by decide +kernel
theorem qmch_28 : xe_look (xc 174) 28 = some (.ireturn, 1, 0, 0, 0) := by decide +kernel
theorem qmda_0 : xe_look (xc 183) 0 = some (.aload_n 0, 1, 0, 0, 0) := by decide +kernel
theorem qmda_1 : xe_look (xc 183) 1 = some (.iload_n 1, 1, 0, 0, 0) := by decide +kernel
theorem qmda_2 : xe_look (xc 183) 2 = some (.invokevirtual 205, 3, 0, 205, 1130) := by decide +kernel
theorem qmda_5 : xe_look (xc 183) 5 = some (.ifCond .eq 13, 3, 0, 0, 0) := by decide +kernel
theorem qmda_18 : xe_look (xc 183) 18 = some (.iconst 0, 1, 0, 0, 0) := by decide +kernel
theorem qmda_19 : xe_look (xc 183) 19 = some (.ireturn, 1, 0, 0, 0) := by decide +kernel
theorem qmod_0 : xe_look (xc 228) 0 = some (.aload_n 0, 1, 0, 0, 0) := by decide +kernel
theorem qmod_1 : xe_look (xc 228) 1 = some (.iload_n 1, 1, 0, 0, 0) := by decide +kernel
theorem qmod_2 : xe_look (xc 228) 2 = some (.invokevirtual 205, 3, 0, 205, 1130) := by decide +kernel
theorem qmod_5 : xe_look (xc 228) 5 = some (.ifCond .eq 40, 3, 0, 0, 0) := by decide +kernel
theorem qmod_45 : xe_look (xc 228) 45 = some (.iconst (-1), 1, 0, 0, 0) := by decide +kernel
theorem qmod_46 : xe_look (xc 228) 46 = some (.ireturn, 1, 0, 0, 0) := by decide +kernel
theorem qmpu_0 : xe_look (xc 231) 0 = some (.aload_n 0, 1, 0, 0, 0) := by decide +kernel
theorem qmpu_1 : xe_look (xc 231) 1 = some (.iload_n 1, 1, 0, 0, 0) := by decide +kernel
theorem qmpu_2 : xe_look (xc 231) 2 = some (.invokevirtual 205, 3, 0, 205, 1130) := by decide +kernel
theorem qmpu_5 : xe_look (xc 231) 5 = some (.ifCond .eq 10, 3, 0, 0, 0) := by decide +kernel
theorem qmpu_15 : xe_look (xc 231) 15 = some (.iconst 0, 1, 0, 0, 0) := by decide +kernel
theorem qmpu_16 : xe_look (xc 231) 16 = some (.ireturn, 1, 0, 0, 0) := by decide +kernel
theorem qmsu_0 : xe_look (xc 258) 0 = some (.aload_n 0, 1, 0, 0, 0) := by decide +kernel
theorem qmsu_1 : xe_look (xc 258) 1 = some (.iload_n 1, 1, 0, 0, 0) := by decide +kernel
theorem qmsu_2 : xe_look (xc 258) 2 = some (.invokevirtual 205, 3, 0, 205, 1130) := by decide +kernel
theorem qmsu_5 : xe_look (xc 258) 5 = some (.ifCond .eq 12, 3, 0, 0, 0) := by decide +kernel
theorem qmsu_17 : xe_look (xc 258) 17 = some (.iconst 0, 1, 0, 0, 0) := by decide +kernel
theorem qmsu_18 : xe_look (xc 258) 18 = some (.ireturn, 1, 0, 0, 0) := by decide +kernel
theorem cb_m17 {g : pH} (hG : g_I eG g) : 0 ≤ cF g 196 17 ∧ cF g 196 17 ≤ 260 := gb_f hG (y := 17) rfl rfl gf_17
def kmpu_1 : eK := (231, (2, [(0, 2, (0, 100000, [197])), (1, 0, (0, 31, [])), (2, 0, ((-2147483648), (-1), []))], [], []), (0, []), 0, [(some (0, (0, 0, [])), [], [])])
theorem empu_1 : ex_mid eG eKT eDX 4000 kmpu_1 [] 8 = true := by decide +kernel
def kmpu_2 : eK := (231, (2, [(0, 2, (0, 100000, [197])), (1, 0, (0, 31, [])), (2, 0, (8, 2147483647, []))], [], []), (0, []), 0, [(some (0, (0, 0, [])), [], [])])
theorem empu_2 : ex_mid eG eKT eDX 4000 kmpu_2 [] 8 = true := by decide +kernel
def kmpu_a : eK := (231, (2, [(0, 2, (0, 100000, [197])), (1, 0, (0, 31, [])), (2, 0, (0, 7, []))], [], []), (0, []), 38981256045599996321413529551500753243504907430380030107471625828851794763065704409862460263528041036901219664925634672733836679460812376186311949185250613678125110799825892119483158621960214593411198373916873515494742391701579499782985454461875862451310955212417110188327314359967656443904, [(some (0, (1, 1, [])), [], [])])
theorem empu_a : ex_mid eG eKT eDX 4000 kmpu_a [] 8 = true := by decide +kernel
def kmda_1 : eK := (183, (2, [(0, 2, (0, 100000, [197])), (1, 0, (0, 31, [])), (2, 0, ((-2147483648), (-1), []))], [], []), (0, []), 0, [(some (0, (0, 0, [])), [], [])])
theorem emda_1 : ex_mid eG eKT eDX 4000 kmda_1 [] 8 = true := by decide +kernel
def kmda_2 : eK := (183, (2, [(0, 2, (0, 100000, [197])), (1, 0, (0, 31, [])), (2, 0, (100, 2147483647, []))], [], []), (0, []), 0, [(some (0, (0, 0, [])), [], [])])
theorem emda_2 : ex_mid eG eKT eDX 4000 kmda_2 [] 8 = true := by decide +kernel
def kmda_a : eK := (183, (2, [(0, 2, (0, 100000, [197])), (1, 0, (0, 31, [])), (2, 0, (0, 99, []))], [], []), (0, []), 1247400193459199882285232945648024103792157037772160963439092026523257432418102541115598728432897313180839029277620309527482773742745996037961982373928019637700003545594428547823461075902726866989158347965339952495831756534450543993055534542780027598441950566797347526026474059518965006204928, [(some (0, (1, 1, [])), [], [])])
theorem emda_a : ex_mid eG eKT eDX 4000 kmda_a [] 8 = true := by decide +kernel
def kmsu_1 : eK := (258, (2, [(0, 2, (0, 100000, [197])), (1, 0, (0, 31, [])), (2, 0, ((-2147483648), (-1), []))], [], []), (0, []), 0, [(some (0, (0, 0, [])), [], [])])
theorem emsu_1 : ex_mid eG eKT eDX 4000 kmsu_1 [] 8 = true := by decide +kernel
def kmsu_2 : eK := (258, (2, [(0, 2, (0, 100000, [197])), (1, 0, (0, 31, [])), (2, 0, (4, 2147483647, []))], [], []), (0, []), 0, [(some (0, (0, 0, [])), [], [])])
theorem emsu_2 : ex_mid eG eKT eDX 4000 kmsu_2 [] 8 = true := by decide +kernel
def kmsu_a : eK := (258, (2, [(0, 2, (0, 100000, [197])), (1, 0, (0, 31, [])), (2, 0, (0, 3, []))], [], []), (0, []), 9979201547673599058281863565184192830337256302177287707512736212186059459344820328924789827463178505446712234220962476219862189941967968303695858991424157101600028364755428382587688607221814935913266783722719619966654052275604351944444276342240220787535604534378780208211792476151720049639424, [(some (0, (1, 1, [])), [], [])])
theorem emsu_a : ex_mid eG eKT eDX 4000 kmsu_a [] 8 = true := by decide +kernel
def kmod_1 : eK := (228, (11, [(0, 2, (0, 100000, [197])), (1, 0, (0, 31, [])), (2, 0, ((-2147483648), (-1), [])), (3, 0, ((-2147483648), 2147483647, [])), (4, 0, ((-2147483648), 2147483647, []))], [], []), (0, []), 0, [(some (0, ((-1), (-1), [])), [], [])])
theorem emod_1 : ex_mid eG eKT eDX 4000 kmod_1 [] 8 = true := by decide +kernel
def kmod_2 : eK := (228, (11, [(0, 2, (0, 100000, [197])), (1, 0, (0, 31, [])), (2, 0, (8, 2147483647, [])), (3, 0, ((-2147483648), 2147483647, [])), (4, 0, ((-2147483648), 2147483647, []))], [], []), (0, []), 0, [(some (0, ((-1), (-1), [])), [], [])])
theorem emod_2 : ex_mid eG eKT eDX 4000 kmod_2 [] 8 = true := by decide +kernel
def kmod_3 : eK := (228, (11, [(0, 2, (0, 100000, [197])), (1, 0, (0, 31, [])), (2, 0, ((-2147483648), 2147483647, [])), (3, 0, ((-2147483648), (-1), [])), (4, 0, ((-2147483648), 2147483647, []))], [], []), (0, []), 0, [(some (0, ((-1), (-1), [])), [], [])])
theorem emod_3 : ex_mid eG eKT eDX 4000 kmod_3 [] 8 = true := by decide +kernel
def kmod_4 : eK := (228, (11, [(0, 2, (0, 100000, [197])), (1, 0, (0, 31, [])), (2, 0, ((-2147483648), 2147483647, [])), (3, 0, (9, 2147483647, [])), (4, 0, ((-2147483648), 2147483647, []))], [], []), (0, []), 0, [(some (0, ((-1), (-1), [])), [], [])])
theorem emod_4 : ex_mid eG eKT eDX 4000 kmod_4 [] 8 = true := by decide +kernel
def kmod_5 : eK := (228, (11, [(0, 2, (0, 100000, [197])), (1, 0, (0, 31, [])), (2, 0, ((-2147483648), 2147483647, [])), (3, 0, ((-2147483648), 2147483647, [])), (4, 0, ((-2147483648), (-1), []))], [], []), (0, []), 0, [(some (0, ((-1), (-1), [])), [], [])])
theorem emod_5 : ex_mid eG eKT eDX 4000 kmod_5 [] 8 = true := by decide +kernel
def kmod_6 : eK := (228, (11, [(0, 2, (0, 100000, [197])), (1, 0, (0, 31, [])), (2, 0, ((-2147483648), 2147483647, [])), (3, 0, ((-2147483648), 2147483647, [])), (4, 0, (2, 2147483647, []))], [], []), (0, []), 0, [(some (0, ((-1), (-1), [])), [], [])])
theorem emod_6 : ex_mid eG eKT eDX 4000 kmod_6 [] 8 = true := by decide +kernel
def kmod_7 : eK := (228, (11, [(0, 2, (0, 100000, [197])), (1, 0, (0, 31, [])), (2, 0, (0, 7, [])), (3, 0, (0, 8, [])), (4, 0, (0, 1, []))], [(196, 17, 0, (0, 260, []))], [(1, [(4, (-3)), (6, 1)])]), (0, []), 0, [(some (0, ((-1), (-1), [])), [], [])])
theorem emod_7 : ex_mid eG eKT eDX 4000 kmod_7 [] 8 = true := by decide +kernel
def kmod_a : eK := (228, (11, [(0, 2, (0, 100000, [197])), (1, 0, (0, 31, [])), (2, 0, (0, 7, [])), (3, 0, (0, 8, [])), (4, 0, (0, 1, []))], [(196, 17, 0, (0, 260, []))], [(0, [(4, 3), (6, (-1))])]), (0, []), 292990634777494970571834974352348372376408625585468973439970157106006294036709378193625556400456107096627892788858082469823732360836919265007338114375967923135394452323609835843376750447618807681694051895467432765314165788101161802265528242184952095541343275262826062372736495681724022597743106064384, [(some (0, ((-2147483648), 2147483647, [])), [(196, 17, 0, (0, 0, []))], [])])
theorem emod_a : ex_mid eG eKT eDX 4000 kmod_a kc_29 8 = true := by decide +kernel
def kmch_1 : eK := (174, (2, [(0, 2, (0, 100000, [197])), (1, 0, (0, 31, [])), (2, 0, ((-2147483648), (-1), []))], [], []), (0, []), 0, [(some (0, ((-2), (-2), [])), [], [])])
theorem emch_1 : ex_mid eG eKT eDX 4000 kmch_1 [] 8 = true := by decide +kernel
def kmch_2 : eK := (174, (2, [(0, 2, (0, 100000, [197])), (1, 0, (0, 31, [])), (2, 0, (26, 2147483647, []))], [], []), (0, []), 0, [(some (0, ((-2), (-2), [])), [], [])])
theorem emch_2 : ex_mid eG eKT eDX 4000 kmch_2 [] 8 = true := by decide +kernel
def kmch_3 : eK := (174, (2, [(0, 2, (0, 100000, [197])), (1, 0, (0, 31, [])), (2, 0, (0, 25, []))], [(196, 17, 0, (0, 260, []))], [(1, [(3, (-1)), (4, 1)])]), (0, []), 0, [(some (0, ((-2), (-2), [])), [], [])])
theorem emch_3 : ex_mid eG eKT eDX 4000 kmch_3 [] 8 = true := by decide +kernel
def kmch_a : eK := (174, (2, [(0, 2, (0, 100000, [197])), (1, 0, (0, 31, [])), (2, 0, (0, 25, []))], [(196, 17, 0, (0, 260, []))], [(0, [(3, 1), (4, (-1))])]), (0, []), 4127301024497384737127654569660285988428494734657199391624693039270889863724412964643884811622321780427143710884821317803768340308614730759769835769241715444596770968742227220068214981847081570726751819595399909407406471037121576084674975771617472472574520163263578112, [(some (0, ((-2147483648), 2147483647, [])), [(196, 17, 0, (0, 0, []))], [])])
theorem emch_a : ex_mid eG eKT eDX 4000 kmch_a kc_62 8 = true := by decide +kernel
set_option maxHeartbeats 2000000 in
theorem mpu_run {d : Nat} (hd : 2 ≤ d) (hd2 : d ≤ 1000000) {g : pH} (hG : g_I eG g) (hx : xL g) {i w : Int} (hi : -2147483648 ≤ i ∧ i ≤ 2147483647) (hw : -2147483648 ≤ w ∧ w ≤ 2147483647) {P : Option pv × pH → Prop} (hA : ∀ (g1 : pH), g_I eG g1 → xL g1 → f_M kmpu_a.2.2.2.1 g g1 → toM g i ∧ (0 ≤ w ∧ w ≤ 7) → P (some (oI 1), g1)) (hR : ∀ (g1 : pH), g_I eG g1 → xL g1 → f_M kmpu_a.2.2.2.1 g g1 → (∀ u v, cF g1 u v = cF g u v) → ¬ (toM g i ∧ (0 ≤ w ∧ w ≤ 7)) → P (some (oI 0), g1)) {lv : List (Nat × pv)} (l0 : px_lg lv 0 = some (pvR 196)) (l1 : px_lg lv 1 = some (oI i)) (l2 : px_lg lv 2 = some (oI w)) : t_X d 231 0 lv [] g P := by
  have hJ : J_ 0 g g := J_rf hG
  have hb := cb_m17 hG
  refine t_0 qmpu_0 rfl (ld_a l0) ?_
  refine t_0 qmpu_1 rfl (ld_i l1) ?_
  refine t_3 qmpu_2 rfl (ar := ([pvR 196, oI (i)], [])) (pcal_v1 rfl rfl el_196) ⟨by omega, Nat.le_of_ble_eq_true rfl, Nat.le_of_ble_eq_true rfl, rfl⟩ ?_
  refine it_run (by omega) (by omega) rfl rfl (fun m hm e1 c0 => ?_) (fun c0 => ?_)
  · show t_X d 231 5 lv [oI (1)] g P
    refine tz_eq qmpu_5 (by decide) ⟨by omega, by omega⟩ (fun c1 => absurd c1 (by omega)) (fun c1 => ?_)
    show t_X d 231 8 lv [] g P
    by_cases a0 : w < 0
    · refine mid_L (k := kmpu_1) empu_1 hG hx (xs := [cv (pvR 196), cv (oI i), cv (oI w)]) (ys := []) ⟨by show 2 ≤ _; omega, ⟨⟨pvR 196, l0, rfl, rfl, ok_this⟩, ⟨oI i, l1, rfl, rfl, ok_oI (by omega) (by decide) (by decide)⟩, ⟨oI w, l2, rfl, rfl, ok_oI (by omega) (by decide) (by decide)⟩, trivial⟩, trivial, fun c hc => absurd hc List.not_mem_nil⟩ (by omega) (fun o G1 X1 M1 P1 => ?_)
      obtain ⟨o1, o2⟩ := o
      obtain ⟨rfl, -⟩ := po_c P1
      exact hR _ G1 X1 (f_M_0 M1) (fun u v => cF_M0 M1 u v) (fun z => by have z1 := z.2; omega)
    · skip
      by_cases a1 : 7 < w
      · refine mid_L (k := kmpu_2) empu_2 hG hx (xs := [cv (pvR 196), cv (oI i), cv (oI w)]) (ys := []) ⟨by show 2 ≤ _; omega, ⟨⟨pvR 196, l0, rfl, rfl, ok_this⟩, ⟨oI i, l1, rfl, rfl, ok_oI (by omega) (by decide) (by decide)⟩, ⟨oI w, l2, rfl, rfl, ok_oI (by omega) (by decide) (by decide)⟩, trivial⟩, trivial, fun c hc => absurd hc List.not_mem_nil⟩ (by omega) (fun o G1 X1 M1 P1 => ?_)
        obtain ⟨o1, o2⟩ := o
        obtain ⟨rfl, -⟩ := po_c P1
        exact hR _ G1 X1 (f_M_0 M1) (fun u v => cF_M0 M1 u v) (fun z => by have z1 := z.2; omega)
      · skip
        refine mid_L (k := kmpu_a) empu_a hG hx (xs := [cv (pvR 196), cv (oI i), cv (oI w)]) (ys := []) ⟨by show 2 ≤ _; omega, ⟨⟨pvR 196, l0, rfl, rfl, ok_this⟩, ⟨oI i, l1, rfl, rfl, ok_oI (by omega) (by decide) (by decide)⟩, ⟨oI w, l2, rfl, rfl, ok_oI (by omega) (by decide) (by decide)⟩, trivial⟩, trivial, fun c hc => absurd hc List.not_mem_nil⟩ (by omega) (fun o G1 X1 M1 P1 => ?_)
        obtain ⟨o1, o2⟩ := o
        obtain ⟨rfl, ys, hF⟩ := po_c P1
        exact hA _ G1 X1 M1 ⟨⟨m, hm, e1, c0⟩, by omega⟩
  · show t_X d 231 5 lv [oI (0)] g P
    refine tz_eq qmpu_5 (by decide) ⟨by omega, by omega⟩ (fun c2 => ?_) (fun c2 => absurd c2 (by omega))
    show t_X d 231 15 lv [] g P
    refine t_0 qmpu_15 rfl rfl ?_
    refine t_5 qmpu_16 rfl rfl ?_
    exact hR _ hG hx (f_M_rf _ _) (fun _ _ => rfl) (fun z => c0 z.1)
set_option maxHeartbeats 2000000 in
theorem mda_run {d : Nat} (hd : 2 ≤ d) (hd2 : d ≤ 1000000) {g : pH} (hG : g_I eG g) (hx : xL g) {i w : Int} (hi : -2147483648 ≤ i ∧ i ≤ 2147483647) (hw : -2147483648 ≤ w ∧ w ≤ 2147483647) {P : Option pv × pH → Prop} (hA : ∀ (g1 : pH), g_I eG g1 → xL g1 → f_M kmda_a.2.2.2.1 g g1 → toM g i ∧ (0 ≤ w ∧ w ≤ 99) → P (some (oI 1), g1)) (hR : ∀ (g1 : pH), g_I eG g1 → xL g1 → f_M kmda_a.2.2.2.1 g g1 → (∀ u v, cF g1 u v = cF g u v) → ¬ (toM g i ∧ (0 ≤ w ∧ w ≤ 99)) → P (some (oI 0), g1)) {lv : List (Nat × pv)} (l0 : px_lg lv 0 = some (pvR 196)) (l1 : px_lg lv 1 = some (oI i)) (l2 : px_lg lv 2 = some (oI w)) : t_X d 183 0 lv [] g P := by
  have hJ : J_ 0 g g := J_rf hG
  have hb := cb_m17 hG
  refine t_0 qmda_0 rfl (ld_a l0) ?_
  refine t_0 qmda_1 rfl (ld_i l1) ?_
  refine t_3 qmda_2 rfl (ar := ([pvR 196, oI (i)], [])) (pcal_v1 rfl rfl el_196) ⟨by omega, Nat.le_of_ble_eq_true rfl, Nat.le_of_ble_eq_true rfl, rfl⟩ ?_
  refine it_run (by omega) (by omega) rfl rfl (fun m hm e1 c0 => ?_) (fun c0 => ?_)
  · show t_X d 183 5 lv [oI (1)] g P
    refine tz_eq qmda_5 (by decide) ⟨by omega, by omega⟩ (fun c1 => absurd c1 (by omega)) (fun c1 => ?_)
    show t_X d 183 8 lv [] g P
    by_cases a0 : w < 0
    · refine mid_L (k := kmda_1) emda_1 hG hx (xs := [cv (pvR 196), cv (oI i), cv (oI w)]) (ys := []) ⟨by show 2 ≤ _; omega, ⟨⟨pvR 196, l0, rfl, rfl, ok_this⟩, ⟨oI i, l1, rfl, rfl, ok_oI (by omega) (by decide) (by decide)⟩, ⟨oI w, l2, rfl, rfl, ok_oI (by omega) (by decide) (by decide)⟩, trivial⟩, trivial, fun c hc => absurd hc List.not_mem_nil⟩ (by omega) (fun o G1 X1 M1 P1 => ?_)
      obtain ⟨o1, o2⟩ := o
      obtain ⟨rfl, -⟩ := po_c P1
      exact hR _ G1 X1 (f_M_0 M1) (fun u v => cF_M0 M1 u v) (fun z => by have z1 := z.2; omega)
    · skip
      by_cases a1 : 99 < w
      · refine mid_L (k := kmda_2) emda_2 hG hx (xs := [cv (pvR 196), cv (oI i), cv (oI w)]) (ys := []) ⟨by show 2 ≤ _; omega, ⟨⟨pvR 196, l0, rfl, rfl, ok_this⟩, ⟨oI i, l1, rfl, rfl, ok_oI (by omega) (by decide) (by decide)⟩, ⟨oI w, l2, rfl, rfl, ok_oI (by omega) (by decide) (by decide)⟩, trivial⟩, trivial, fun c hc => absurd hc List.not_mem_nil⟩ (by omega) (fun o G1 X1 M1 P1 => ?_)
        obtain ⟨o1, o2⟩ := o
        obtain ⟨rfl, -⟩ := po_c P1
        exact hR _ G1 X1 (f_M_0 M1) (fun u v => cF_M0 M1 u v) (fun z => by have z1 := z.2; omega)
      · skip
        refine mid_L (k := kmda_a) emda_a hG hx (xs := [cv (pvR 196), cv (oI i), cv (oI w)]) (ys := []) ⟨by show 2 ≤ _; omega, ⟨⟨pvR 196, l0, rfl, rfl, ok_this⟩, ⟨oI i, l1, rfl, rfl, ok_oI (by omega) (by decide) (by decide)⟩, ⟨oI w, l2, rfl, rfl, ok_oI (by omega) (by decide) (by decide)⟩, trivial⟩, trivial, fun c hc => absurd hc List.not_mem_nil⟩ (by omega) (fun o G1 X1 M1 P1 => ?_)
        obtain ⟨o1, o2⟩ := o
        obtain ⟨rfl, ys, hF⟩ := po_c P1
        exact hA _ G1 X1 M1 ⟨⟨m, hm, e1, c0⟩, by omega⟩
  · show t_X d 183 5 lv [oI (0)] g P
    refine tz_eq qmda_5 (by decide) ⟨by omega, by omega⟩ (fun c2 => ?_) (fun c2 => absurd c2 (by omega))
    show t_X d 183 18 lv [] g P
    refine t_0 qmda_18 rfl rfl ?_
    refine t_5 qmda_19 rfl rfl ?_
    exact hR _ hG hx (f_M_rf _ _) (fun _ _ => rfl) (fun z => c0 z.1)
set_option maxHeartbeats 2000000 in
theorem msu_run {d : Nat} (hd : 2 ≤ d) (hd2 : d ≤ 1000000) {g : pH} (hG : g_I eG g) (hx : xL g) {i w : Int} (hi : -2147483648 ≤ i ∧ i ≤ 2147483647) (hw : -2147483648 ≤ w ∧ w ≤ 2147483647) {P : Option pv × pH → Prop} (hA : ∀ (g1 : pH), g_I eG g1 → xL g1 → f_M kmsu_a.2.2.2.1 g g1 → toM g i ∧ (0 ≤ w ∧ w ≤ 3) → P (some (oI 1), g1)) (hR : ∀ (g1 : pH), g_I eG g1 → xL g1 → f_M kmsu_a.2.2.2.1 g g1 → (∀ u v, cF g1 u v = cF g u v) → ¬ (toM g i ∧ (0 ≤ w ∧ w ≤ 3)) → P (some (oI 0), g1)) {lv : List (Nat × pv)} (l0 : px_lg lv 0 = some (pvR 196)) (l1 : px_lg lv 1 = some (oI i)) (l2 : px_lg lv 2 = some (oI w)) : t_X d 258 0 lv [] g P := by
  have hJ : J_ 0 g g := J_rf hG
  have hb := cb_m17 hG
  refine t_0 qmsu_0 rfl (ld_a l0) ?_
  refine t_0 qmsu_1 rfl (ld_i l1) ?_
  refine t_3 qmsu_2 rfl (ar := ([pvR 196, oI (i)], [])) (pcal_v1 rfl rfl el_196) ⟨by omega, Nat.le_of_ble_eq_true rfl, Nat.le_of_ble_eq_true rfl, rfl⟩ ?_
  refine it_run (by omega) (by omega) rfl rfl (fun m hm e1 c0 => ?_) (fun c0 => ?_)
  · show t_X d 258 5 lv [oI (1)] g P
    refine tz_eq qmsu_5 (by decide) ⟨by omega, by omega⟩ (fun c1 => absurd c1 (by omega)) (fun c1 => ?_)
    show t_X d 258 8 lv [] g P
    by_cases a0 : w < 0
    · refine mid_L (k := kmsu_1) emsu_1 hG hx (xs := [cv (pvR 196), cv (oI i), cv (oI w)]) (ys := []) ⟨by show 2 ≤ _; omega, ⟨⟨pvR 196, l0, rfl, rfl, ok_this⟩, ⟨oI i, l1, rfl, rfl, ok_oI (by omega) (by decide) (by decide)⟩, ⟨oI w, l2, rfl, rfl, ok_oI (by omega) (by decide) (by decide)⟩, trivial⟩, trivial, fun c hc => absurd hc List.not_mem_nil⟩ (by omega) (fun o G1 X1 M1 P1 => ?_)
      obtain ⟨o1, o2⟩ := o
      obtain ⟨rfl, -⟩ := po_c P1
      exact hR _ G1 X1 (f_M_0 M1) (fun u v => cF_M0 M1 u v) (fun z => by have z1 := z.2; omega)
    · skip
      by_cases a1 : 3 < w
      · refine mid_L (k := kmsu_2) emsu_2 hG hx (xs := [cv (pvR 196), cv (oI i), cv (oI w)]) (ys := []) ⟨by show 2 ≤ _; omega, ⟨⟨pvR 196, l0, rfl, rfl, ok_this⟩, ⟨oI i, l1, rfl, rfl, ok_oI (by omega) (by decide) (by decide)⟩, ⟨oI w, l2, rfl, rfl, ok_oI (by omega) (by decide) (by decide)⟩, trivial⟩, trivial, fun c hc => absurd hc List.not_mem_nil⟩ (by omega) (fun o G1 X1 M1 P1 => ?_)
        obtain ⟨o1, o2⟩ := o
        obtain ⟨rfl, -⟩ := po_c P1
        exact hR _ G1 X1 (f_M_0 M1) (fun u v => cF_M0 M1 u v) (fun z => by have z1 := z.2; omega)
      · skip
        refine mid_L (k := kmsu_a) emsu_a hG hx (xs := [cv (pvR 196), cv (oI i), cv (oI w)]) (ys := []) ⟨by show 2 ≤ _; omega, ⟨⟨pvR 196, l0, rfl, rfl, ok_this⟩, ⟨oI i, l1, rfl, rfl, ok_oI (by omega) (by decide) (by decide)⟩, ⟨oI w, l2, rfl, rfl, ok_oI (by omega) (by decide) (by decide)⟩, trivial⟩, trivial, fun c hc => absurd hc List.not_mem_nil⟩ (by omega) (fun o G1 X1 M1 P1 => ?_)
        obtain ⟨o1, o2⟩ := o
        obtain ⟨rfl, ys, hF⟩ := po_c P1
        exact hA _ G1 X1 M1 ⟨⟨m, hm, e1, c0⟩, by omega⟩
  · show t_X d 258 5 lv [oI (0)] g P
    refine tz_eq qmsu_5 (by decide) ⟨by omega, by omega⟩ (fun c2 => ?_) (fun c2 => absurd c2 (by omega))
    show t_X d 258 17 lv [] g P
    refine t_0 qmsu_17 rfl rfl ?_
    refine t_5 qmsu_18 rfl rfl ?_
    exact hR _ hG hx (f_M_rf _ _) (fun _ _ => rfl) (fun z => c0 z.1)
set_option maxHeartbeats 2000000 in
theorem mod_run {d : Nat} (hd : 11 ≤ d) (hd2 : d ≤ 1000000) {g : pH} (hG : g_I eG g) (hx : xL g) {i w n q : Int} (hi : -2147483648 ≤ i ∧ i ≤ 2147483647) (hw : -2147483648 ≤ w ∧ w ≤ 2147483647) (hn : -2147483648 ≤ n ∧ n ≤ 2147483647) (hq : -2147483648 ≤ q ∧ q ≤ 2147483647) {P : Option pv × pH → Prop} (hA : ∀ (v : Int32) (g1 : pH), g_I eG g1 → xL g1 → f_M kmod_a.2.2.2.1 g g1 → cF g1 196 17 = 0 → toM g i ∧ (0 ≤ w ∧ w ≤ 7) ∧ (0 ≤ n ∧ n ≤ 8) ∧ (0 ≤ q ∧ q ≤ 1) ∧ 3 * n ≤ cF g 196 17 → P (some (.inl v), g1)) (hR : ∀ (g1 : pH), g_I eG g1 → xL g1 → f_M kmod_a.2.2.2.1 g g1 → (∀ u v, cF g1 u v = cF g u v) → ¬ (toM g i ∧ (0 ≤ w ∧ w ≤ 7) ∧ (0 ≤ n ∧ n ≤ 8) ∧ (0 ≤ q ∧ q ≤ 1) ∧ 3 * n ≤ cF g 196 17) → P (some (oI (-1)), g1)) {lv : List (Nat × pv)} (l0 : px_lg lv 0 = some (pvR 196)) (l1 : px_lg lv 1 = some (oI i)) (l2 : px_lg lv 2 = some (oI w)) (l3 : px_lg lv 3 = some (oI n)) (l4 : px_lg lv 4 = some (oI q)) : t_X d 228 0 lv [] g P := by
  have hJ : J_ 0 g g := J_rf hG
  have hb := cb_m17 hG
  refine t_0 qmod_0 rfl (ld_a l0) ?_
  refine t_0 qmod_1 rfl (ld_i l1) ?_
  refine t_3 qmod_2 rfl (ar := ([pvR 196, oI (i)], [])) (pcal_v1 rfl rfl el_196) ⟨by omega, Nat.le_of_ble_eq_true rfl, Nat.le_of_ble_eq_true rfl, rfl⟩ ?_
  refine it_run (by omega) (by omega) rfl rfl (fun m hm e1 c0 => ?_) (fun c0 => ?_)
  · show t_X d 228 5 lv [oI (1)] g P
    refine tz_eq qmod_5 (by decide) ⟨by omega, by omega⟩ (fun c1 => absurd c1 (by omega)) (fun c1 => ?_)
    show t_X d 228 8 lv [] g P
    by_cases a0 : w < 0
    · refine mid_L (k := kmod_1) emod_1 hG hx (xs := [cv (pvR 196), cv (oI i), cv (oI w), cv (oI n), cv (oI q)]) (ys := []) ⟨by show 11 ≤ _; omega, ⟨⟨pvR 196, l0, rfl, rfl, ok_this⟩, ⟨oI i, l1, rfl, rfl, ok_oI (by omega) (by decide) (by decide)⟩, ⟨oI w, l2, rfl, rfl, ok_oI (by omega) (by decide) (by decide)⟩, ⟨oI n, l3, rfl, rfl, ok_full32 _⟩, ⟨oI q, l4, rfl, rfl, ok_full32 _⟩, trivial⟩, trivial, fun c hc => absurd hc List.not_mem_nil⟩ (by omega) (fun o G1 X1 M1 P1 => ?_)
      obtain ⟨o1, o2⟩ := o
      obtain ⟨rfl, -⟩ := po_c P1
      exact hR _ G1 X1 (f_M_0 M1) (fun u v => cF_M0 M1 u v) (fun z => by have z1 := z.2; omega)
    · skip
      by_cases a1 : 7 < w
      · refine mid_L (k := kmod_2) emod_2 hG hx (xs := [cv (pvR 196), cv (oI i), cv (oI w), cv (oI n), cv (oI q)]) (ys := []) ⟨by show 11 ≤ _; omega, ⟨⟨pvR 196, l0, rfl, rfl, ok_this⟩, ⟨oI i, l1, rfl, rfl, ok_oI (by omega) (by decide) (by decide)⟩, ⟨oI w, l2, rfl, rfl, ok_oI (by omega) (by decide) (by decide)⟩, ⟨oI n, l3, rfl, rfl, ok_full32 _⟩, ⟨oI q, l4, rfl, rfl, ok_full32 _⟩, trivial⟩, trivial, fun c hc => absurd hc List.not_mem_nil⟩ (by omega) (fun o G1 X1 M1 P1 => ?_)
        obtain ⟨o1, o2⟩ := o
        obtain ⟨rfl, -⟩ := po_c P1
        exact hR _ G1 X1 (f_M_0 M1) (fun u v => cF_M0 M1 u v) (fun z => by have z1 := z.2; omega)
      · skip
        by_cases a2 : n < 0
        · refine mid_L (k := kmod_3) emod_3 hG hx (xs := [cv (pvR 196), cv (oI i), cv (oI w), cv (oI n), cv (oI q)]) (ys := []) ⟨by show 11 ≤ _; omega, ⟨⟨pvR 196, l0, rfl, rfl, ok_this⟩, ⟨oI i, l1, rfl, rfl, ok_oI (by omega) (by decide) (by decide)⟩, ⟨oI w, l2, rfl, rfl, ok_full32 _⟩, ⟨oI n, l3, rfl, rfl, ok_oI (by omega) (by decide) (by decide)⟩, ⟨oI q, l4, rfl, rfl, ok_full32 _⟩, trivial⟩, trivial, fun c hc => absurd hc List.not_mem_nil⟩ (by omega) (fun o G1 X1 M1 P1 => ?_)
          obtain ⟨o1, o2⟩ := o
          obtain ⟨rfl, -⟩ := po_c P1
          exact hR _ G1 X1 (f_M_0 M1) (fun u v => cF_M0 M1 u v) (fun z => by have z1 := z.2; omega)
        · skip
          by_cases a3 : 8 < n
          · refine mid_L (k := kmod_4) emod_4 hG hx (xs := [cv (pvR 196), cv (oI i), cv (oI w), cv (oI n), cv (oI q)]) (ys := []) ⟨by show 11 ≤ _; omega, ⟨⟨pvR 196, l0, rfl, rfl, ok_this⟩, ⟨oI i, l1, rfl, rfl, ok_oI (by omega) (by decide) (by decide)⟩, ⟨oI w, l2, rfl, rfl, ok_full32 _⟩, ⟨oI n, l3, rfl, rfl, ok_oI (by omega) (by decide) (by decide)⟩, ⟨oI q, l4, rfl, rfl, ok_full32 _⟩, trivial⟩, trivial, fun c hc => absurd hc List.not_mem_nil⟩ (by omega) (fun o G1 X1 M1 P1 => ?_)
            obtain ⟨o1, o2⟩ := o
            obtain ⟨rfl, -⟩ := po_c P1
            exact hR _ G1 X1 (f_M_0 M1) (fun u v => cF_M0 M1 u v) (fun z => by have z1 := z.2; omega)
          · skip
            by_cases a4 : q < 0
            · refine mid_L (k := kmod_5) emod_5 hG hx (xs := [cv (pvR 196), cv (oI i), cv (oI w), cv (oI n), cv (oI q)]) (ys := []) ⟨by show 11 ≤ _; omega, ⟨⟨pvR 196, l0, rfl, rfl, ok_this⟩, ⟨oI i, l1, rfl, rfl, ok_oI (by omega) (by decide) (by decide)⟩, ⟨oI w, l2, rfl, rfl, ok_full32 _⟩, ⟨oI n, l3, rfl, rfl, ok_full32 _⟩, ⟨oI q, l4, rfl, rfl, ok_oI (by omega) (by decide) (by decide)⟩, trivial⟩, trivial, fun c hc => absurd hc List.not_mem_nil⟩ (by omega) (fun o G1 X1 M1 P1 => ?_)
              obtain ⟨o1, o2⟩ := o
              obtain ⟨rfl, -⟩ := po_c P1
              exact hR _ G1 X1 (f_M_0 M1) (fun u v => cF_M0 M1 u v) (fun z => by have z1 := z.2; omega)
            · skip
              by_cases a5 : 1 < q
              · refine mid_L (k := kmod_6) emod_6 hG hx (xs := [cv (pvR 196), cv (oI i), cv (oI w), cv (oI n), cv (oI q)]) (ys := []) ⟨by show 11 ≤ _; omega, ⟨⟨pvR 196, l0, rfl, rfl, ok_this⟩, ⟨oI i, l1, rfl, rfl, ok_oI (by omega) (by decide) (by decide)⟩, ⟨oI w, l2, rfl, rfl, ok_full32 _⟩, ⟨oI n, l3, rfl, rfl, ok_full32 _⟩, ⟨oI q, l4, rfl, rfl, ok_oI (by omega) (by decide) (by decide)⟩, trivial⟩, trivial, fun c hc => absurd hc List.not_mem_nil⟩ (by omega) (fun o G1 X1 M1 P1 => ?_)
                obtain ⟨o1, o2⟩ := o
                obtain ⟨rfl, -⟩ := po_c P1
                exact hR _ G1 X1 (f_M_0 M1) (fun u v => cF_M0 M1 u v) (fun z => by have z1 := z.2; omega)
              · skip
                by_cases a6 : cF g 196 17 < 3 * n
                · refine mid_L (k := kmod_7) emod_7 hG hx (xs := [cv (pvR 196), cv (oI i), cv (oI w), cv (oI n), cv (oI q)]) (ys := [cF g 196 17]) ⟨by show 11 ≤ _; omega, ⟨⟨pvR 196, l0, rfl, rfl, ok_this⟩, ⟨oI i, l1, rfl, rfl, ok_oI (by omega) (by decide) (by decide)⟩, ⟨oI w, l2, rfl, rfl, ok_oI (by omega) (by decide) (by decide)⟩, ⟨oI n, l3, rfl, rfl, ok_oI (by omega) (by decide) (by decide)⟩, ⟨oI q, l4, rfl, rfl, ok_oI (by omega) (by decide) (by decide)⟩, trivial⟩, ⟨⟨.inl (g.1 196 17), hc_i el_196 (Nat.le_of_ble_eq_true rfl) rfl, rfl, rfl, ⟨hb.1, hb.2, Or.inl rfl⟩⟩, trivial⟩, fun c hc => by obtain rfl := List.mem_singleton.mp hc; exact ⟨_, ⟨_, rfl, rfl⟩, by show (1 : Int) + ((-3) * cv (oI n) + (1 * cF g 196 17 + 0)) ≤ 0; rw [cv_oI (a := n) (by omega)]; omega⟩⟩ (by omega) (fun o G1 X1 M1 P1 => ?_)
                  obtain ⟨o1, o2⟩ := o
                  obtain ⟨rfl, -⟩ := po_c P1
                  exact hR _ G1 X1 (f_M_0 M1) (fun u v => cF_M0 M1 u v) (fun z => by have z1 := z.2; omega)
                · skip
                  refine mid_L (k := kmod_a) emod_a hG hx (xs := [cv (pvR 196), cv (oI i), cv (oI w), cv (oI n), cv (oI q)]) (ys := [cF g 196 17]) ⟨by show 11 ≤ _; omega, ⟨⟨pvR 196, l0, rfl, rfl, ok_this⟩, ⟨oI i, l1, rfl, rfl, ok_oI (by omega) (by decide) (by decide)⟩, ⟨oI w, l2, rfl, rfl, ok_oI (by omega) (by decide) (by decide)⟩, ⟨oI n, l3, rfl, rfl, ok_oI (by omega) (by decide) (by decide)⟩, ⟨oI q, l4, rfl, rfl, ok_oI (by omega) (by decide) (by decide)⟩, trivial⟩, ⟨⟨.inl (g.1 196 17), hc_i el_196 (Nat.le_of_ble_eq_true rfl) rfl, rfl, rfl, ⟨hb.1, hb.2, Or.inl rfl⟩⟩, trivial⟩, fun c hc => by obtain rfl := List.mem_singleton.mp hc; exact ⟨_, ⟨_, rfl, rfl⟩, by show (0 : Int) + (3 * cv (oI n) + ((-1) * cF g 196 17 + 0)) ≤ 0; rw [cv_oI (a := n) (by omega)]; omega⟩⟩ (by omega) (fun o G1 X1 M1 P1 => ?_)
                  obtain ⟨o1, o2⟩ := o
                  obtain ⟨z, rfl, hz, ys, hF⟩ := po_i P1
                  exact hA _ _ G1 X1 M1 (fa_i el_196 (Nat.le_of_ble_eq_true rfl) rfl hF) ⟨⟨m, hm, e1, c0⟩, by omega⟩
  · show t_X d 228 5 lv [oI (0)] g P
    refine tz_eq qmod_5 (by decide) ⟨by omega, by omega⟩ (fun c2 => ?_) (fun c2 => absurd c2 (by omega))
    show t_X d 228 45 lv [] g P
    refine t_0 qmod_45 rfl rfl ?_
    refine t_5 qmod_46 rfl rfl ?_
    exact hR _ hG hx (f_M_rf _ _) (fun _ _ => rfl) (fun z => c0 z.1)
set_option maxHeartbeats 2000000 in
theorem mch_run {d : Nat} (hd : 2 ≤ d) (hd2 : d ≤ 1000000) {g : pH} (hG : g_I eG g) (hx : xL g) {i n : Int} (hi : -2147483648 ≤ i ∧ i ≤ 2147483647) (hn : -2147483648 ≤ n ∧ n ≤ 2147483647) {P : Option pv × pH → Prop} (hA : ∀ (v : Int32) (g1 : pH), g_I eG g1 → xL g1 → f_M kmch_a.2.2.2.1 g g1 → cF g1 196 17 = 0 → toM g i ∧ (0 ≤ n ∧ n ≤ 25) ∧ n ≤ cF g 196 17 → P (some (.inl v), g1)) (hR : ∀ (g1 : pH), g_I eG g1 → xL g1 → f_M kmch_a.2.2.2.1 g g1 → (∀ u v, cF g1 u v = cF g u v) → ¬ (toM g i ∧ (0 ≤ n ∧ n ≤ 25) ∧ n ≤ cF g 196 17) → P (some (oI (-2)), g1)) {lv : List (Nat × pv)} (l0 : px_lg lv 0 = some (pvR 196)) (l1 : px_lg lv 1 = some (oI i)) (l2 : px_lg lv 2 = some (oI n)) : t_X d 174 0 lv [] g P := by
  have hJ : J_ 0 g g := J_rf hG
  have hb := cb_m17 hG
  refine t_0 qmch_0 rfl (ld_a l0) ?_
  refine t_0 qmch_1 rfl (ld_i l1) ?_
  refine t_3 qmch_2 rfl (ar := ([pvR 196, oI (i)], [])) (pcal_v1 rfl rfl el_196) ⟨by omega, Nat.le_of_ble_eq_true rfl, Nat.le_of_ble_eq_true rfl, rfl⟩ ?_
  refine it_run (by omega) (by omega) rfl rfl (fun m hm e1 c0 => ?_) (fun c0 => ?_)
  · show t_X d 174 5 lv [oI (1)] g P
    refine tz_eq qmch_5 (by decide) ⟨by omega, by omega⟩ (fun c1 => absurd c1 (by omega)) (fun c1 => ?_)
    show t_X d 174 8 lv [] g P
    by_cases a0 : n < 0
    · refine mid_L (k := kmch_1) emch_1 hG hx (xs := [cv (pvR 196), cv (oI i), cv (oI n)]) (ys := []) ⟨by show 2 ≤ _; omega, ⟨⟨pvR 196, l0, rfl, rfl, ok_this⟩, ⟨oI i, l1, rfl, rfl, ok_oI (by omega) (by decide) (by decide)⟩, ⟨oI n, l2, rfl, rfl, ok_oI (by omega) (by decide) (by decide)⟩, trivial⟩, trivial, fun c hc => absurd hc List.not_mem_nil⟩ (by omega) (fun o G1 X1 M1 P1 => ?_)
      obtain ⟨o1, o2⟩ := o
      obtain ⟨rfl, -⟩ := po_c P1
      exact hR _ G1 X1 (f_M_0 M1) (fun u v => cF_M0 M1 u v) (fun z => by have z1 := z.2; omega)
    · skip
      by_cases a1 : 25 < n
      · refine mid_L (k := kmch_2) emch_2 hG hx (xs := [cv (pvR 196), cv (oI i), cv (oI n)]) (ys := []) ⟨by show 2 ≤ _; omega, ⟨⟨pvR 196, l0, rfl, rfl, ok_this⟩, ⟨oI i, l1, rfl, rfl, ok_oI (by omega) (by decide) (by decide)⟩, ⟨oI n, l2, rfl, rfl, ok_oI (by omega) (by decide) (by decide)⟩, trivial⟩, trivial, fun c hc => absurd hc List.not_mem_nil⟩ (by omega) (fun o G1 X1 M1 P1 => ?_)
        obtain ⟨o1, o2⟩ := o
        obtain ⟨rfl, -⟩ := po_c P1
        exact hR _ G1 X1 (f_M_0 M1) (fun u v => cF_M0 M1 u v) (fun z => by have z1 := z.2; omega)
      · skip
        by_cases a2 : cF g 196 17 < n
        · refine mid_L (k := kmch_3) emch_3 hG hx (xs := [cv (pvR 196), cv (oI i), cv (oI n)]) (ys := [cF g 196 17]) ⟨by show 2 ≤ _; omega, ⟨⟨pvR 196, l0, rfl, rfl, ok_this⟩, ⟨oI i, l1, rfl, rfl, ok_oI (by omega) (by decide) (by decide)⟩, ⟨oI n, l2, rfl, rfl, ok_oI (by omega) (by decide) (by decide)⟩, trivial⟩, ⟨⟨.inl (g.1 196 17), hc_i el_196 (Nat.le_of_ble_eq_true rfl) rfl, rfl, rfl, ⟨hb.1, hb.2, Or.inl rfl⟩⟩, trivial⟩, fun c hc => by obtain rfl := List.mem_singleton.mp hc; exact ⟨_, ⟨_, rfl, rfl⟩, by show (1 : Int) + ((-1) * cv (oI n) + (1 * cF g 196 17 + 0)) ≤ 0; rw [cv_oI (a := n) (by omega)]; omega⟩⟩ (by omega) (fun o G1 X1 M1 P1 => ?_)
          obtain ⟨o1, o2⟩ := o
          obtain ⟨rfl, -⟩ := po_c P1
          exact hR _ G1 X1 (f_M_0 M1) (fun u v => cF_M0 M1 u v) (fun z => by have z1 := z.2; omega)
        · skip
          refine mid_L (k := kmch_a) emch_a hG hx (xs := [cv (pvR 196), cv (oI i), cv (oI n)]) (ys := [cF g 196 17]) ⟨by show 2 ≤ _; omega, ⟨⟨pvR 196, l0, rfl, rfl, ok_this⟩, ⟨oI i, l1, rfl, rfl, ok_oI (by omega) (by decide) (by decide)⟩, ⟨oI n, l2, rfl, rfl, ok_oI (by omega) (by decide) (by decide)⟩, trivial⟩, ⟨⟨.inl (g.1 196 17), hc_i el_196 (Nat.le_of_ble_eq_true rfl) rfl, rfl, rfl, ⟨hb.1, hb.2, Or.inl rfl⟩⟩, trivial⟩, fun c hc => by obtain rfl := List.mem_singleton.mp hc; exact ⟨_, ⟨_, rfl, rfl⟩, by show (0 : Int) + (1 * cv (oI n) + ((-1) * cF g 196 17 + 0)) ≤ 0; rw [cv_oI (a := n) (by omega)]; omega⟩⟩ (by omega) (fun o G1 X1 M1 P1 => ?_)
          obtain ⟨o1, o2⟩ := o
          obtain ⟨z, rfl, hz, ys, hF⟩ := po_i P1
          exact hA _ _ G1 X1 M1 (fa_i el_196 (Nat.le_of_ble_eq_true rfl) rfl hF) ⟨⟨m, hm, e1, c0⟩, by omega⟩
  · show t_X d 174 5 lv [oI (0)] g P
    refine tz_eq qmch_5 (by decide) ⟨by omega, by omega⟩ (fun c2 => ?_) (fun c2 => absurd c2 (by omega))
    show t_X d 174 26 lv [] g P
    refine t_0 qmch_26 rfl (pq_b (by decide)) ?_
    refine t_5 qmch_28 rfl rfl ?_
    exact hR _ hG hx (f_M_rf _ _) (fun _ _ => rfl) (fun z => c0 z.1)
end
section
/-! the tie: feed of the class (printed by wip/e2/t4.py) -/
theorem qab_0 : xe_look (xc 109) 0 = some (.bipush 24, 2, 0, 0, 0) := by decide +kernel
theorem qab_2 : xe_look (xc 109) 2 = some (.istore_n 2, 1, 0, 0, 0) := by decide +kernel
theorem qab_3 : xe_look (xc 109) 3 = some (.iload_n 2, 1, 0, 0, 0) := by decide +kernel
theorem qab_4 : xe_look (xc 109) 4 = some (.ifCond .lt 45, 3, 0, 0, 0) := by decide +kernel
theorem qab_7 : xe_look (xc 109) 7 = some (.aload_n 0, 1, 0, 0, 0) := by decide +kernel
theorem qab_8 : xe_look (xc 109) 8 = some (.getfield 81, 3, 11, 1, 981) := by decide +kernel
theorem qab_11 : xe_look (xc 109) 11 = some (.sipush 260, 3, 0, 0, 0) := by decide +kernel
theorem qab_14 : xe_look (xc 109) 14 = some (.if_icmp .ge 35, 3, 0, 0, 0) := by decide +kernel
theorem qab_17 : xe_look (xc 109) 17 = some (.aload_n 0, 1, 0, 0, 0) := by decide +kernel
theorem qab_18 : xe_look (xc 109) 18 = some (.getfield 9, 3, 11, 0, 982) := by decide +kernel
theorem qab_21 : xe_look (xc 109) 21 = some (.aload_n 0, 1, 0, 0, 0) := by decide +kernel
theorem qab_22 : xe_look (xc 109) 22 = some (.getfield 81, 3, 11, 1, 981) := by decide +kernel
theorem qab_25 : xe_look (xc 109) 25 = some (.iload_n 1, 1, 0, 0, 0) := by decide +kernel
theorem qab_26 : xe_look (xc 109) 26 = some (.iload_n 2, 1, 0, 0, 0) := by decide +kernel
theorem qab_27 : xe_look (xc 109) 27 = some (.iushr, 1, 0, 0, 0) := by decide +kernel
theorem qab_28 : xe_look (xc 109) 28 = some (.sipush 255, 3, 0, 0, 0) := by decide +kernel
theorem qab_31 : xe_look (xc 109) 31 = some (.iand, 1, 0, 0, 0) := by decide +kernel
theorem qab_32 : xe_look (xc 109) 32 = some (.iastore, 1, 0, 0, 0) := by decide +kernel
theorem qab_33 : xe_look (xc 109) 33 = some (.aload_n 0, 1, 0, 0, 0) := by decide +kernel
theorem qab_34 : xe_look (xc 109) 34 = some (.dup, 1, 0, 0, 0) := by decide +kernel
theorem qab_35 : xe_look (xc 109) 35 = some (.getfield 81, 3, 11, 1, 981) := by decide +kernel
theorem qab_38 : xe_look (xc 109) 38 = some (.iconst 1, 1, 0, 0, 0) := by decide +kernel
theorem qab_39 : xe_look (xc 109) 39 = some (.iadd, 1, 0, 0, 0) := by decide +kernel
theorem qab_40 : xe_look (xc 109) 40 = some (.putfield 81, 3, 11, 1, 981) := by decide +kernel
theorem qab_43 : xe_look (xc 109) 43 = some (.iinc 2 (-8), 3, 0, 0, 0) := by decide +kernel
theorem qab_46 : xe_look (xc 109) 46 = some (.goto (-43), 3, 0, 0, 0) := by decide +kernel
theorem qab_49 : xe_look (xc 109) 49 = some (.return_, 1, 0, 0, 0) := by decide +kernel
theorem qfc_0 : xe_look (xc 119) 0 = some (.aload_n 0, 1, 0, 0, 0) := by decide +kernel
theorem qfc_1 : xe_look (xc 119) 1 = some (.getfield 81, 3, 11, 1, 981) := by decide +kernel
theorem qfc_4 : xe_look (xc 119) 4 = some (.bipush 20, 2, 0, 0, 0) := by decide +kernel
theorem qfc_6 : xe_look (xc 119) 6 = some (.iadd, 1, 0, 0, 0) := by decide +kernel
theorem qfc_7 : xe_look (xc 119) 7 = some (.sipush 260, 3, 0, 0, 0) := by decide +kernel
theorem qfc_10 : xe_look (xc 119) 10 = some (.if_icmp .le 5, 3, 0, 0, 0) := by decide +kernel
theorem qfc_13 : xe_look (xc 119) 13 = some (.iconst (-1), 1, 0, 0, 0) := by decide +kernel
theorem qfc_14 : xe_look (xc 119) 14 = some (.ireturn, 1, 0, 0, 0) := by decide +kernel
theorem qfc_15 : xe_look (xc 119) 15 = some (.aload_n 0, 1, 0, 0, 0) := by decide +kernel
theorem qfc_16 : xe_look (xc 119) 16 = some (.iload_n 1, 1, 0, 0, 0) := by decide +kernel
theorem qfc_17 : xe_look (xc 119) 17 = some (.invokevirtual 85, 3, 0, 109, 1018) := by decide +kernel
theorem qfc_20 : xe_look (xc 119) 20 = some (.aload_n 0, 1, 0, 0, 0) := by decide +kernel
theorem qfc_21 : xe_look (xc 119) 21 = some (.iload_n 2, 1, 0, 0, 0) := by decide +kernel
theorem qfc_22 : xe_look (xc 119) 22 = some (.invokevirtual 85, 3, 0, 109, 1018) := by decide +kernel
theorem qfc_25 : xe_look (xc 119) 25 = some (.aload_n 0, 1, 0, 0, 0) := by decide +kernel
theorem qfc_26 : xe_look (xc 119) 26 = some (.iload_n 3, 1, 0, 0, 0) := by decide +kernel
theorem qfc_27 : xe_look (xc 119) 27 = some (.invokevirtual 85, 3, 0, 109, 1018) := by decide +kernel
theorem qfc_30 : xe_look (xc 119) 30 = some (.aload_n 0, 1, 0, 0, 0) := by decide +kernel
theorem qfc_31 : xe_look (xc 119) 31 = some (.iload 4, 2, 0, 0, 0) := by decide +kernel
theorem qfc_33 : xe_look (xc 119) 33 = some (.invokevirtual 85, 3, 0, 109, 1018) := by decide +kernel
theorem qfc_36 : xe_look (xc 119) 36 = some (.aload_n 0, 1, 0, 0, 0) := by decide +kernel
theorem qfc_37 : xe_look (xc 119) 37 = some (.iload 5, 2, 0, 0, 0) := by decide +kernel
theorem qfc_39 : xe_look (xc 119) 39 = some (.invokevirtual 85, 3, 0, 109, 1018) := by decide +kernel
theorem qfc_42 : xe_look (xc 119) 42 = some (.aload_n 0, 1, 0, 0, 0) := by decide +kernel
theorem qfc_43 : xe_look (xc 119) 43 = some (.getfield 81, 3, 11, 1, 981) := by decide +kernel
theorem qfc_46 : xe_look (xc 119) 46 = some (.ireturn, 1, 0, 0, 0) := by decide +kernel
theorem cg_0_0 : (eG (cn 0 + 0)).2.2 = [2] := by decide +kernel
theorem cr_0_0 {d i : Nat} {lv : List (Nat × pv)} {r : List pv} {g : pH} (hG : g_I eG g) : px_push eL d none (.getfield i) 11 0 lv (pvR 0 :: r) g = some (pvR 1 :: r) := pget er_0 (gI_r (r := 1) hG er_0 (Nat.le_of_ble_eq_true rfl) (y := 0) rfl cg_0_0)
def updI (f : Nat → Int) (j : Nat) (x : Int) : Nat → Int := fun k => if k = j then x else f k
theorem fA_pu {f : pH} {K j : Nat} {v : Int32} : fA (f.1, f.2.1, f.2.2.1, pu f.2.2.2.1 K j v, f.2.2.2.2) K = updI (fA f K) j v.toInt := by
  funext k
  show (pu f.2.2.2.1 K j v K k).toInt = if k = j then v.toInt else (f.2.2.2.1 K k).toInt
  unfold pu
  by_cases h : k = j
  · rw [if_pos ⟨rfl, h⟩, if_pos h]
  · rw [if_neg (fun z => h z.2), if_neg h]
theorem an255 (x : Int32) : 0 ≤ (x &&& Int32.ofInt 255).toInt ∧ (x &&& Int32.ofInt 255).toInt ≤ 255 := by
  have e : (x &&& Int32.ofInt 255).toBitVec = x.toBitVec &&& 255#32 := rfl
  have h : (x.toBitVec &&& 255#32).toNat ≤ 255 := by
    rw [BitVec.toNat_and]
    exact Nat.and_le_right
  have h2 : (x &&& Int32.ofInt 255).toInt = ((x.toBitVec &&& 255#32).toNat : Int) := by
    show (x &&& Int32.ofInt 255).toBitVec.toInt = _
    rw [e]
    exact BitVec.toInt_eq_toNat_of_lt (by omega)
  omega
/-- a byte of an int, as the class and as the reference take it -/
def bC (v : Int32) (s : Int) : Int := ((v.toUInt32 >>> ((Int32.ofInt s).toUInt32 &&& Int32.toUInt32 31)).toInt32 &&& Int32.ofInt 255).toInt
def bR (v : Int32) (k : Int) : Int := ((v >>> (Int32.ofInt (8 * k) &&& 31)).toInt8.toInt32).toInt8.toInt32.toInt
theorem sh_c {v : Int32} {u : UInt32} {s : Nat} (hu : (u.toBitVec % 32#32).toNat = s) : ((v.toUInt32 >>> u).toInt32 &&& Int32.ofInt 255).toInt = ((v.toBitVec.toNat / 2 ^ s % 256 : Nat) : Int) := by
  have e : ((v.toUInt32 >>> u).toInt32 &&& Int32.ofInt 255).toBitVec = (v.toBitVec >>> s) &&& 255#32 := by
    show (v.toUInt32 >>> u).toBitVec &&& 255#32 = _
    rw [UInt32.toBitVec_shiftRight]
    congr 1
    show v.toBitVec >>> (u.toBitVec % 32#32) = _
    rw [BitVec.ushiftRight_eq', hu]
  have h2 : (v.toBitVec >>> s &&& 255#32).toNat = v.toBitVec.toNat / 2 ^ s % 256 := by
    rw [BitVec.toNat_and, BitVec.toNat_ushiftRight, Nat.shiftRight_eq_div_pow]
    exact Nat.and_two_pow_sub_one_eq_mod _ 8
  show ((v.toUInt32 >>> u).toInt32 &&& Int32.ofInt 255).toBitVec.toInt = _
  rw [e, BitVec.toInt_eq_toNat_of_lt (by rw [h2]; omega), h2]
theorem sh_r {v w : Int32} {s : Nat} (hw : (w.toBitVec.smod 32#32).toNat = s) : ((v >>> w).toInt8.toInt32).toInt8.toInt32.toInt % 256 = v.toInt / ((2 ^ s : Nat) : Int) % 256 := by
  have hw2 : (w.toBitVec.smod 32).toNat = s := hw
  have e : (v >>> w).toInt = v.toInt / ((2 ^ s : Nat) : Int) := by
    show (v >>> w).toBitVec.toInt = _
    rw [Int32.toBitVec_shiftRight, BitVec.sshiftRight', hw2, BitVec.toInt_sshiftRight, Int.shiftRight_eq_div_pow]
    rfl
  rw [Int8.toInt_toInt32, Int32.toInt_toInt8, Int8.toInt_toInt32, Int32.toInt_toInt8, e]
  generalize v.toInt / ((2 ^ s : Nat) : Int) = z
  rw [Int.bmod_bmod]
  exact Int.bmod_emod ..
theorem b_mod {v : Int32} {s k : Int} (h : (s = 24 ∧ k = 3) ∨ (s = 16 ∧ k = 2) ∨ (s = 8 ∧ k = 1) ∨ (s = 0 ∧ k = 0)) : bC v s = bR v k % 256 := by
  have hv : v.toInt = (v.toBitVec.toNat : Int) ∨ v.toInt = (v.toBitVec.toNat : Int) - 4294967296 := by
    have h1 : v.toInt = v.toBitVec.toInt := rfl
    rw [h1, BitVec.toInt_eq_toNat_cond]
    split
    · left; rfl
    · right; rfl
  unfold bC bR
  rcases h with ⟨rfl, rfl⟩ | ⟨rfl, rfl⟩ | ⟨rfl, rfl⟩ | ⟨rfl, rfl⟩
  · rw [sh_c (s := 24) (by decide), sh_r (s := 24) (by decide)]
    omega
  · rw [sh_c (s := 16) (by decide), sh_r (s := 16) (by decide)]
    omega
  · rw [sh_c (s := 8) (by decide), sh_r (s := 8) (by decide)]
    omega
  · rw [sh_c (s := 0) (by decide), sh_r (s := 0) (by decide)]
    omega
theorem bR_b (v : Int32) (k : Int) : -128 ≤ bR v k ∧ bR v k ≤ 127 := by_b _
def apC (v : Int32) (n : Nat) (f : Nat → Int) : Nat → Int := updI (updI (updI (updI f n (bC v 24)) (n + 1) (bC v 16)) (n + 2) (bC v 8)) (n + 3) (bC v 0)
def apR (v : Int32) (n : Nat) (f : Nat → Int) : Nat → Int := updI (updI (updI (updI f n (bR v 3)) (n + 1) (bR v 2)) (n + 2) (bR v 1)) (n + 3) (bR v 0)
/-- a tape of the class, and one of the reference -/
def tpR (f f' : Nat → Int) : Prop := ∀ k, k < 260 → f k = f' k % 256 ∧ -128 ≤ f' k ∧ f' k ≤ 127
theorem tp_upd {f f' : Nat → Int} {n : Nat} {x y : Int} (h : tpR f f') (hx : x = y % 256 ∧ -128 ≤ y ∧ y ≤ 127) : tpR (updI f n x) (updI f' n y) := fun k hk => by
  unfold updI
  by_cases e : k = n
  · rw [if_pos e, if_pos e]; exact hx
  · rw [if_neg e, if_neg e]; exact h k hk
theorem tp_ap {f f' : Nat → Int} {n : Nat} (v : Int32) (h : tpR f f') : tpR (apC v n f) (apR v n f') :=
  tp_upd (tp_upd (tp_upd (tp_upd h ⟨b_mod (Or.inl ⟨rfl, rfl⟩), bR_b _ _⟩) ⟨b_mod (Or.inr (Or.inl ⟨rfl, rfl⟩)), bR_b _ _⟩) ⟨b_mod (Or.inr (Or.inr (Or.inl ⟨rfl, rfl⟩))), bR_b _ _⟩) ⟨b_mod (Or.inr (Or.inr (Or.inr ⟨rfl, rfl⟩))), bR_b _ _⟩
theorem el_1 : eL[1]? = some (1, 260) := by decide +kernel
theorem gA_1 : eG (cn 1) = (0, 255, []) := by decide +kernel
theorem gA_211 : eG (cn 211) = (-144, 143, []) := by decide +kernel
theorem cr_0_0' : (eG (cn 0 + 0)).2.2 = [2] := by decide +kernel
set_option maxHeartbeats 4000000 in
theorem ab_run {d W : Nat} (w_a1 : W.testBit (cn 1) = true) (w_0_1 : W.testBit (cn 0 + 1) = true) {h0 g : pH} (hJ : J_ W h0 g) {v : Int32} (he : 0 ≤ cF g 0 1 ∧ cF g 0 1 + 4 ≤ 260) {P : Option pv × pH → Prop} (hP : ∀ g1 : pH, J_ W h0 g1 → cF g1 0 1 = cF g 0 1 + 4 → fA g1 1 = apC v (cF g 0 1).toNat (fA g 1) → P (none, g1)) {lv : List (Nat × pv)} (l0 : px_lg lv 0 = some (pvR 0)) (l1 : px_lg lv 1 = some (.inl v)) : t_X d 109 0 lv [] g P := by
  refine t_0 qab_0 rfl (pq_b (by decide)) ?_
  refine t_2 qab_2 rfl (w := (px_s1 lv 2 (oI (24)), [])) rfl ?_
  replace l0 : px_lg (px_s1 lv 2 (oI (24))) 0 = some (pvR 0) := s1_ne (by decide) (fun _ => rfl) l0
  replace l1 : px_lg (px_s1 lv 2 (oI (24))) 1 = some (.inl (v)) := s1_ne (by decide) (fun _ => rfl) l1
  have l2 : px_lg (px_s1 lv 2 (oI (24))) 2 = some (oI (24)) := s1_eq
  generalize px_s1 lv 2 (oI (24)) = lv1 at l0 l1 l2 ⊢
  show t_X d 109 3 lv1 [] g P
  refine t_0 qab_3 rfl (ld_i l2) ?_
  refine tz_lt qab_4 (by decide) ⟨by omega, by omega⟩ (fun c2 => absurd c2 (by omega)) (fun c2 => ?_)
  show t_X d 109 7 lv1 [] g P
  refine t_0 qab_7 rfl (ld_a l0) ?_
  have r3 := cb_0_1 hJ.1
  refine t_0 qab_8 rfl (pq_cf (y := 1) er_0 rfl) ?_
  refine t_0 qab_11 rfl (pq_s (by decide)) ?_
  refine tb_ge qab_14 (by decide) ⟨by omega, by omega⟩ ⟨by omega, by omega⟩ (fun c4 => absurd c4 (by omega)) (fun c4 => ?_)
  show t_X d 109 17 lv1 [] g P
  refine t_0 qab_17 rfl (ld_a l0) ?_
  refine t_0 qab_18 rfl (cr_0_0 hJ.1) ?_
  refine t_0 qab_21 rfl (ld_a l0) ?_
  have r5 := cb_0_1 hJ.1
  refine t_0 qab_22 rfl (pq_cf (y := 1) er_0 rfl) ?_
  refine t_0 qab_25 rfl (ld_i l1) ?_
  refine t_0 qab_26 rfl (ld_i l2) ?_
  refine t_0 qab_27 rfl rfl ?_
  refine t_0 qab_28 rfl (pq_s (by decide)) ?_
  refine t_0 qab_31 rfl rfl ?_
  refine tw_i qab_32 hJ el_1 rfl w_a1 gA_1 ⟨by omega, by omega⟩ (an255 _) (fun g6 hJ6 e6 => ?_)
  have u6 : fA g6 1 = updI (fA g 1) (cF g 0 1).toNat ((((v).toUInt32 >>> ((Int32.ofInt (24)).toUInt32 &&& Int32.toUInt32 31)).toInt32) &&& (Int32.ofInt (255))).toInt := by rw [e6]; exact fA_pu
  have v6 : cF g6 0 1 = cF g 0 1 := by rw [e6]; rfl
  show t_X d 109 33 lv1 [] g6 P
  refine t_0 qab_33 rfl (ld_a l0) ?_
  refine t_0 qab_34 rfl rfl ?_
  have r7 := cb_0_1 hJ6.1
  refine t_0 qab_35 rfl (pq_cf (y := 1) er_0 rfl) ?_
  refine t_0 qab_38 rfl rfl ?_
  refine t_0 qab_39 rfl pq_add ?_
  refine tw_c qab_40 er_0 rfl hJ6 w_0_1 gx_0_1 (by decide) ⟨by omega, by omega⟩ (fun g8 hJ8 e8 => ?_)
  have v8 : cF g8 0 1 = (cF g6 0 1) + 1 := by rw [e8]; exact pc_at (by omega) (by omega)
  have u8 : fA g8 1 = fA g6 1 := by rw [e8]; rfl
  show t_X d 109 43 lv1 [] g8 P
  refine t_2 qab_43 rfl (w := (px_s1 lv1 2 (oI (16)), [])) (pq_inc l2 (by decide)) ?_
  replace l0 : px_lg (px_s1 lv1 2 (oI (16))) 0 = some (pvR 0) := s1_ne (by decide) (fun _ => rfl) l0
  replace l1 : px_lg (px_s1 lv1 2 (oI (16))) 1 = some (.inl (v)) := s1_ne (by decide) (fun _ => rfl) l1
  have l2 : px_lg (px_s1 lv1 2 (oI (16))) 2 = some (oI (16)) := s1_eq
  generalize px_s1 lv1 2 (oI (16)) = lv9 at l0 l1 l2 ⊢
  show t_X d 109 46 lv9 [] g8 P
  refine t_1 qab_46 rfl (pb_goto (pc := 46) (by decide)) ?_
  show t_X d 109 3 lv9 [] g8 P
  refine t_0 qab_3 rfl (ld_i l2) ?_
  refine tz_lt qab_4 (by decide) ⟨by omega, by omega⟩ (fun c10 => absurd c10 (by omega)) (fun c10 => ?_)
  show t_X d 109 7 lv9 [] g8 P
  refine t_0 qab_7 rfl (ld_a l0) ?_
  have r11 := cb_0_1 hJ8.1
  refine t_0 qab_8 rfl (pq_cf (y := 1) er_0 rfl) ?_
  refine t_0 qab_11 rfl (pq_s (by decide)) ?_
  refine tb_ge qab_14 (by decide) ⟨by omega, by omega⟩ ⟨by omega, by omega⟩ (fun c12 => absurd c12 (by omega)) (fun c12 => ?_)
  show t_X d 109 17 lv9 [] g8 P
  refine t_0 qab_17 rfl (ld_a l0) ?_
  refine t_0 qab_18 rfl (cr_0_0 hJ8.1) ?_
  refine t_0 qab_21 rfl (ld_a l0) ?_
  have r13 := cb_0_1 hJ8.1
  refine t_0 qab_22 rfl (pq_cf (y := 1) er_0 rfl) ?_
  refine t_0 qab_25 rfl (ld_i l1) ?_
  refine t_0 qab_26 rfl (ld_i l2) ?_
  refine t_0 qab_27 rfl rfl ?_
  refine t_0 qab_28 rfl (pq_s (by decide)) ?_
  refine t_0 qab_31 rfl rfl ?_
  refine tw_i qab_32 hJ8 el_1 rfl w_a1 gA_1 ⟨by omega, by omega⟩ (an255 _) (fun g14 hJ14 e14 => ?_)
  have u14 : fA g14 1 = updI (fA g8 1) (cF g8 0 1).toNat ((((v).toUInt32 >>> ((Int32.ofInt (16)).toUInt32 &&& Int32.toUInt32 31)).toInt32) &&& (Int32.ofInt (255))).toInt := by rw [e14]; exact fA_pu
  have v14 : cF g14 0 1 = cF g8 0 1 := by rw [e14]; rfl
  show t_X d 109 33 lv9 [] g14 P
  refine t_0 qab_33 rfl (ld_a l0) ?_
  refine t_0 qab_34 rfl rfl ?_
  have r15 := cb_0_1 hJ14.1
  refine t_0 qab_35 rfl (pq_cf (y := 1) er_0 rfl) ?_
  refine t_0 qab_38 rfl rfl ?_
  refine t_0 qab_39 rfl pq_add ?_
  refine tw_c qab_40 er_0 rfl hJ14 w_0_1 gx_0_1 (by decide) ⟨by omega, by omega⟩ (fun g16 hJ16 e16 => ?_)
  have v16 : cF g16 0 1 = (cF g14 0 1) + 1 := by rw [e16]; exact pc_at (by omega) (by omega)
  have u16 : fA g16 1 = fA g14 1 := by rw [e16]; rfl
  show t_X d 109 43 lv9 [] g16 P
  refine t_2 qab_43 rfl (w := (px_s1 lv9 2 (oI (8)), [])) (pq_inc l2 (by decide)) ?_
  replace l0 : px_lg (px_s1 lv9 2 (oI (8))) 0 = some (pvR 0) := s1_ne (by decide) (fun _ => rfl) l0
  replace l1 : px_lg (px_s1 lv9 2 (oI (8))) 1 = some (.inl (v)) := s1_ne (by decide) (fun _ => rfl) l1
  have l2 : px_lg (px_s1 lv9 2 (oI (8))) 2 = some (oI (8)) := s1_eq
  generalize px_s1 lv9 2 (oI (8)) = lv17 at l0 l1 l2 ⊢
  show t_X d 109 46 lv17 [] g16 P
  refine t_1 qab_46 rfl (pb_goto (pc := 46) (by decide)) ?_
  show t_X d 109 3 lv17 [] g16 P
  refine t_0 qab_3 rfl (ld_i l2) ?_
  refine tz_lt qab_4 (by decide) ⟨by omega, by omega⟩ (fun c18 => absurd c18 (by omega)) (fun c18 => ?_)
  show t_X d 109 7 lv17 [] g16 P
  refine t_0 qab_7 rfl (ld_a l0) ?_
  have r19 := cb_0_1 hJ16.1
  refine t_0 qab_8 rfl (pq_cf (y := 1) er_0 rfl) ?_
  refine t_0 qab_11 rfl (pq_s (by decide)) ?_
  refine tb_ge qab_14 (by decide) ⟨by omega, by omega⟩ ⟨by omega, by omega⟩ (fun c20 => absurd c20 (by omega)) (fun c20 => ?_)
  show t_X d 109 17 lv17 [] g16 P
  refine t_0 qab_17 rfl (ld_a l0) ?_
  refine t_0 qab_18 rfl (cr_0_0 hJ16.1) ?_
  refine t_0 qab_21 rfl (ld_a l0) ?_
  have r21 := cb_0_1 hJ16.1
  refine t_0 qab_22 rfl (pq_cf (y := 1) er_0 rfl) ?_
  refine t_0 qab_25 rfl (ld_i l1) ?_
  refine t_0 qab_26 rfl (ld_i l2) ?_
  refine t_0 qab_27 rfl rfl ?_
  refine t_0 qab_28 rfl (pq_s (by decide)) ?_
  refine t_0 qab_31 rfl rfl ?_
  refine tw_i qab_32 hJ16 el_1 rfl w_a1 gA_1 ⟨by omega, by omega⟩ (an255 _) (fun g22 hJ22 e22 => ?_)
  have u22 : fA g22 1 = updI (fA g16 1) (cF g16 0 1).toNat ((((v).toUInt32 >>> ((Int32.ofInt (8)).toUInt32 &&& Int32.toUInt32 31)).toInt32) &&& (Int32.ofInt (255))).toInt := by rw [e22]; exact fA_pu
  have v22 : cF g22 0 1 = cF g16 0 1 := by rw [e22]; rfl
  show t_X d 109 33 lv17 [] g22 P
  refine t_0 qab_33 rfl (ld_a l0) ?_
  refine t_0 qab_34 rfl rfl ?_
  have r23 := cb_0_1 hJ22.1
  refine t_0 qab_35 rfl (pq_cf (y := 1) er_0 rfl) ?_
  refine t_0 qab_38 rfl rfl ?_
  refine t_0 qab_39 rfl pq_add ?_
  refine tw_c qab_40 er_0 rfl hJ22 w_0_1 gx_0_1 (by decide) ⟨by omega, by omega⟩ (fun g24 hJ24 e24 => ?_)
  have v24 : cF g24 0 1 = (cF g22 0 1) + 1 := by rw [e24]; exact pc_at (by omega) (by omega)
  have u24 : fA g24 1 = fA g22 1 := by rw [e24]; rfl
  show t_X d 109 43 lv17 [] g24 P
  refine t_2 qab_43 rfl (w := (px_s1 lv17 2 (oI (0)), [])) (pq_inc l2 (by decide)) ?_
  replace l0 : px_lg (px_s1 lv17 2 (oI (0))) 0 = some (pvR 0) := s1_ne (by decide) (fun _ => rfl) l0
  replace l1 : px_lg (px_s1 lv17 2 (oI (0))) 1 = some (.inl (v)) := s1_ne (by decide) (fun _ => rfl) l1
  have l2 : px_lg (px_s1 lv17 2 (oI (0))) 2 = some (oI (0)) := s1_eq
  generalize px_s1 lv17 2 (oI (0)) = lv25 at l0 l1 l2 ⊢
  show t_X d 109 46 lv25 [] g24 P
  refine t_1 qab_46 rfl (pb_goto (pc := 46) (by decide)) ?_
  show t_X d 109 3 lv25 [] g24 P
  refine t_0 qab_3 rfl (ld_i l2) ?_
  refine tz_lt qab_4 (by decide) ⟨by omega, by omega⟩ (fun c26 => absurd c26 (by omega)) (fun c26 => ?_)
  show t_X d 109 7 lv25 [] g24 P
  refine t_0 qab_7 rfl (ld_a l0) ?_
  have r27 := cb_0_1 hJ24.1
  refine t_0 qab_8 rfl (pq_cf (y := 1) er_0 rfl) ?_
  refine t_0 qab_11 rfl (pq_s (by decide)) ?_
  refine tb_ge qab_14 (by decide) ⟨by omega, by omega⟩ ⟨by omega, by omega⟩ (fun c28 => absurd c28 (by omega)) (fun c28 => ?_)
  show t_X d 109 17 lv25 [] g24 P
  refine t_0 qab_17 rfl (ld_a l0) ?_
  refine t_0 qab_18 rfl (cr_0_0 hJ24.1) ?_
  refine t_0 qab_21 rfl (ld_a l0) ?_
  have r29 := cb_0_1 hJ24.1
  refine t_0 qab_22 rfl (pq_cf (y := 1) er_0 rfl) ?_
  refine t_0 qab_25 rfl (ld_i l1) ?_
  refine t_0 qab_26 rfl (ld_i l2) ?_
  refine t_0 qab_27 rfl rfl ?_
  refine t_0 qab_28 rfl (pq_s (by decide)) ?_
  refine t_0 qab_31 rfl rfl ?_
  refine tw_i qab_32 hJ24 el_1 rfl w_a1 gA_1 ⟨by omega, by omega⟩ (an255 _) (fun g30 hJ30 e30 => ?_)
  have u30 : fA g30 1 = updI (fA g24 1) (cF g24 0 1).toNat ((((v).toUInt32 >>> ((Int32.ofInt (0)).toUInt32 &&& Int32.toUInt32 31)).toInt32) &&& (Int32.ofInt (255))).toInt := by rw [e30]; exact fA_pu
  have v30 : cF g30 0 1 = cF g24 0 1 := by rw [e30]; rfl
  show t_X d 109 33 lv25 [] g30 P
  refine t_0 qab_33 rfl (ld_a l0) ?_
  refine t_0 qab_34 rfl rfl ?_
  have r31 := cb_0_1 hJ30.1
  refine t_0 qab_35 rfl (pq_cf (y := 1) er_0 rfl) ?_
  refine t_0 qab_38 rfl rfl ?_
  refine t_0 qab_39 rfl pq_add ?_
  refine tw_c qab_40 er_0 rfl hJ30 w_0_1 gx_0_1 (by decide) ⟨by omega, by omega⟩ (fun g32 hJ32 e32 => ?_)
  have v32 : cF g32 0 1 = (cF g30 0 1) + 1 := by rw [e32]; exact pc_at (by omega) (by omega)
  have u32 : fA g32 1 = fA g30 1 := by rw [e32]; rfl
  show t_X d 109 43 lv25 [] g32 P
  refine t_2 qab_43 rfl (w := (px_s1 lv25 2 (oI ((-8))), [])) (pq_inc l2 (by decide)) ?_
  replace l0 : px_lg (px_s1 lv25 2 (oI ((-8)))) 0 = some (pvR 0) := s1_ne (by decide) (fun _ => rfl) l0
  replace l1 : px_lg (px_s1 lv25 2 (oI ((-8)))) 1 = some (.inl (v)) := s1_ne (by decide) (fun _ => rfl) l1
  have l2 : px_lg (px_s1 lv25 2 (oI ((-8)))) 2 = some (oI ((-8))) := s1_eq
  generalize px_s1 lv25 2 (oI ((-8))) = lv33 at l0 l1 l2 ⊢
  show t_X d 109 46 lv33 [] g32 P
  refine t_1 qab_46 rfl (pb_goto (pc := 46) (by decide)) ?_
  show t_X d 109 3 lv33 [] g32 P
  refine t_0 qab_3 rfl (ld_i l2) ?_
  refine tz_lt qab_4 (by decide) ⟨by omega, by omega⟩ (fun c34 => ?_) (fun c34 => absurd c34 (by omega))
  show t_X d 109 49 lv33 [] g32 P
  refine t_5 qab_49 rfl rfl ?_
  refine hP _ hJ32 (by omega) ?_
  rw [u32, u30, u24, u22, u16, u14, u8, u6]
  rw [show (cF g8 0 1).toNat = (cF g 0 1).toNat + 1 by omega]
  rw [show (cF g16 0 1).toNat = (cF g 0 1).toNat + 2 by omega]
  rw [show (cF g24 0 1).toNat = (cF g 0 1).toNat + 3 by omega]
  rfl
set_option maxHeartbeats 4000000 in
theorem fc_run {d W : Nat} (hd : 1 ≤ d) (w_a1 : W.testBit (cn 1) = true) (w_0_1 : W.testBit (cn 0 + 1) = true) {h0 g : pH} (hJ : J_ W h0 g) {a1 a2 a3 a4 a5 : Int32} {P : Option pv × pH → Prop} (hP0 : 260 < cF g 0 1 + 20 → P (some (oI (-1)), g)) (hP1 : ∀ g1 : pH, J_ W h0 g1 → cF g 0 1 + 20 ≤ 260 → cF g1 0 1 = cF g 0 1 + 20 → fA g1 1 = apC a5 ((cF g 0 1).toNat + 16) (apC a4 ((cF g 0 1).toNat + 12) (apC a3 ((cF g 0 1).toNat + 8) (apC a2 ((cF g 0 1).toNat + 4) (apC a1 (cF g 0 1).toNat (fA g 1))))) → P (some (oI (cF g 0 1 + 20)), g1)) {lv : List (Nat × pv)} (l0 : px_lg lv 0 = some (pvR 0)) (l1 : px_lg lv 1 = some (.inl a1)) (l2 : px_lg lv 2 = some (.inl a2)) (l3 : px_lg lv 3 = some (.inl a3)) (l4 : px_lg lv 4 = some (.inl a4)) (l5 : px_lg lv 5 = some (.inl a5)) : t_X d 119 0 lv [] g P := by
  refine t_0 qfc_0 rfl (ld_a l0) ?_
  have r1 := cb_0_1 hJ.1
  refine t_0 qfc_1 rfl (pq_cf (y := 1) er_0 rfl) ?_
  refine t_0 qfc_4 rfl (pq_b (by decide)) ?_
  refine t_0 qfc_6 rfl pq_add ?_
  refine t_0 qfc_7 rfl (pq_s (by decide)) ?_
  refine tb_le qfc_10 (by decide) ⟨by omega, by omega⟩ ⟨by omega, by omega⟩ (fun c2 => ?_) (fun c2 => ?_)
  · show t_X d 119 15 lv [] g P
    refine t_0 qfc_15 rfl (ld_a l0) ?_
    refine t_0 qfc_16 rfl (ld_i l1) ?_
    refine t_3 qfc_17 rfl (ar := ([pvR 0, .inl (a1)], [])) (pcal_v1 rfl rfl er_0) ⟨by omega, Nat.le_of_ble_eq_true rfl, Nat.le_of_ble_eq_true rfl, rfl⟩ ?_
    refine ab_run w_a1 w_0_1 hJ (by omega) (fun g3 hJ3 v3 u3 => ?_) rfl rfl
    show t_X d 119 20 lv [] g3 P
    refine t_0 qfc_20 rfl (ld_a l0) ?_
    refine t_0 qfc_21 rfl (ld_i l2) ?_
    refine t_3 qfc_22 rfl (ar := ([pvR 0, .inl (a2)], [])) (pcal_v1 rfl rfl er_0) ⟨by omega, Nat.le_of_ble_eq_true rfl, Nat.le_of_ble_eq_true rfl, rfl⟩ ?_
    refine ab_run w_a1 w_0_1 hJ3 (by omega) (fun g4 hJ4 v4 u4 => ?_) rfl rfl
    show t_X d 119 25 lv [] g4 P
    refine t_0 qfc_25 rfl (ld_a l0) ?_
    refine t_0 qfc_26 rfl (ld_i l3) ?_
    refine t_3 qfc_27 rfl (ar := ([pvR 0, .inl (a3)], [])) (pcal_v1 rfl rfl er_0) ⟨by omega, Nat.le_of_ble_eq_true rfl, Nat.le_of_ble_eq_true rfl, rfl⟩ ?_
    refine ab_run w_a1 w_0_1 hJ4 (by omega) (fun g5 hJ5 v5 u5 => ?_) rfl rfl
    show t_X d 119 30 lv [] g5 P
    refine t_0 qfc_30 rfl (ld_a l0) ?_
    refine t_0 qfc_31 rfl (ld_i l4) ?_
    refine t_3 qfc_33 rfl (ar := ([pvR 0, .inl (a4)], [])) (pcal_v1 rfl rfl er_0) ⟨by omega, Nat.le_of_ble_eq_true rfl, Nat.le_of_ble_eq_true rfl, rfl⟩ ?_
    refine ab_run w_a1 w_0_1 hJ5 (by omega) (fun g6 hJ6 v6 u6 => ?_) rfl rfl
    show t_X d 119 36 lv [] g6 P
    refine t_0 qfc_36 rfl (ld_a l0) ?_
    refine t_0 qfc_37 rfl (ld_i l5) ?_
    refine t_3 qfc_39 rfl (ar := ([pvR 0, .inl (a5)], [])) (pcal_v1 rfl rfl er_0) ⟨by omega, Nat.le_of_ble_eq_true rfl, Nat.le_of_ble_eq_true rfl, rfl⟩ ?_
    refine ab_run w_a1 w_0_1 hJ6 (by omega) (fun g7 hJ7 v7 u7 => ?_) rfl rfl
    show t_X d 119 42 lv [] g7 P
    refine t_0 qfc_42 rfl (ld_a l0) ?_
    have r8 := cb_0_1 hJ7.1
    refine t_0 qfc_43 rfl (pq_cf (y := 1) er_0 rfl) ?_
    refine t_5 qfc_46 rfl rfl ?_
    rw [show cF g7 0 1 = cF g 0 1 + 20 by omega]
    refine hP1 _ hJ7 (by omega) (by omega) ?_
    rw [u7, u6, u5, u4, u3]
    rw [show (cF g3 0 1).toNat = (cF g 0 1).toNat + 4 by omega]
    rw [show (cF g4 0 1).toNat = (cF g 0 1).toNat + 8 by omega]
    rw [show (cF g5 0 1).toNat = (cF g 0 1).toNat + 12 by omega]
    rw [show (cF g6 0 1).toNat = (cF g 0 1).toNat + 16 by omega]
  · show t_X d 119 13 lv [] g P
    refine t_0 qfc_13 rfl rfl ?_
    refine t_5 qfc_14 rfl rfl ?_
    exact hP0 (by omega)
end
section
/-! the tie: feed of the reference (printed by wip/e2/t4.py) -/
theorem qfm_0 : xe_look (xc 189) 0 = some (.aload_n 0, 1, 0, 0, 0) := by decide +kernel
theorem qfm_1 : xe_look (xc 189) 1 = some (.getfield 194, 3, 12, 17, 1132) := by decide +kernel
theorem qfm_4 : xe_look (xc 189) 4 = some (.bipush 20, 2, 0, 0, 0) := by decide +kernel
theorem qfm_6 : xe_look (xc 189) 6 = some (.iadd, 1, 0, 0, 0) := by decide +kernel
theorem qfm_7 : xe_look (xc 189) 7 = some (.sipush 260, 3, 0, 0, 0) := by decide +kernel
theorem qfm_10 : xe_look (xc 189) 10 = some (.if_icmp .le 5, 3, 0, 0, 0) := by decide +kernel
theorem qfm_13 : xe_look (xc 189) 13 = some (.iconst (-1), 1, 0, 0, 0) := by decide +kernel
theorem qfm_14 : xe_look (xc 189) 14 = some (.ireturn, 1, 0, 0, 0) := by decide +kernel
theorem qfm_15 : xe_look (xc 189) 15 = some (.aload_n 0, 1, 0, 0, 0) := by decide +kernel
theorem qfm_16 : xe_look (xc 189) 16 = some (.iload_n 1, 1, 0, 0, 0) := by decide +kernel
theorem qfm_17 : xe_look (xc 189) 17 = some (.invokevirtual 197, 3, 0, 269, 1174) := by decide +kernel
theorem qfm_20 : xe_look (xc 189) 20 = some (.aload_n 0, 1, 0, 0, 0) := by decide +kernel
theorem qfm_21 : xe_look (xc 189) 21 = some (.iload_n 2, 1, 0, 0, 0) := by decide +kernel
theorem qfm_22 : xe_look (xc 189) 22 = some (.invokevirtual 197, 3, 0, 269, 1174) := by decide +kernel
theorem qfm_25 : xe_look (xc 189) 25 = some (.aload_n 0, 1, 0, 0, 0) := by decide +kernel
theorem qfm_26 : xe_look (xc 189) 26 = some (.iload_n 3, 1, 0, 0, 0) := by decide +kernel
theorem qfm_27 : xe_look (xc 189) 27 = some (.invokevirtual 197, 3, 0, 269, 1174) := by decide +kernel
theorem qfm_30 : xe_look (xc 189) 30 = some (.aload_n 0, 1, 0, 0, 0) := by decide +kernel
theorem qfm_31 : xe_look (xc 189) 31 = some (.iload 4, 2, 0, 0, 0) := by decide +kernel
theorem qfm_33 : xe_look (xc 189) 33 = some (.invokevirtual 197, 3, 0, 269, 1174) := by decide +kernel
theorem qfm_36 : xe_look (xc 189) 36 = some (.aload_n 0, 1, 0, 0, 0) := by decide +kernel
theorem qfm_37 : xe_look (xc 189) 37 = some (.iload 5, 2, 0, 0, 0) := by decide +kernel
theorem qfm_39 : xe_look (xc 189) 39 = some (.invokevirtual 197, 3, 0, 269, 1174) := by decide +kernel
theorem qfm_42 : xe_look (xc 189) 42 = some (.aload_n 0, 1, 0, 0, 0) := by decide +kernel
theorem qfm_43 : xe_look (xc 189) 43 = some (.getfield 194, 3, 12, 17, 1132) := by decide +kernel
theorem qfm_46 : xe_look (xc 189) 46 = some (.ireturn, 1, 0, 0, 0) := by decide +kernel
theorem qyp_0 : xe_look (xc 269) 0 = some (.iconst 3, 1, 0, 0, 0) := by decide +kernel
theorem qyp_1 : xe_look (xc 269) 1 = some (.istore_n 2, 1, 0, 0, 0) := by decide +kernel
theorem qyp_2 : xe_look (xc 269) 2 = some (.iload_n 2, 1, 0, 0, 0) := by decide +kernel
theorem qyp_3 : xe_look (xc 269) 3 = some (.ifCond .lt 35, 3, 0, 0, 0) := by decide +kernel
theorem qyp_6 : xe_look (xc 269) 6 = some (.aload_n 0, 1, 0, 0, 0) := by decide +kernel
theorem qyp_7 : xe_look (xc 269) 7 = some (.getfield 53, 3, 12, 16, 1134) := by decide +kernel
theorem qyp_10 : xe_look (xc 269) 10 = some (.aload_n 0, 1, 0, 0, 0) := by decide +kernel
theorem qyp_11 : xe_look (xc 269) 11 = some (.getfield 194, 3, 12, 17, 1132) := by decide +kernel
theorem qyp_14 : xe_look (xc 269) 14 = some (.iload_n 1, 1, 0, 0, 0) := by decide +kernel
theorem qyp_15 : xe_look (xc 269) 15 = some (.bipush 8, 2, 0, 0, 0) := by decide +kernel
theorem qyp_17 : xe_look (xc 269) 17 = some (.iload_n 2, 1, 0, 0, 0) := by decide +kernel
theorem qyp_18 : xe_look (xc 269) 18 = some (.imul, 1, 0, 0, 0) := by decide +kernel
theorem qyp_19 : xe_look (xc 269) 19 = some (.ishr, 1, 0, 0, 0) := by decide +kernel
theorem qyp_20 : xe_look (xc 269) 20 = some (.i2b, 1, 0, 0, 0) := by decide +kernel
theorem qyp_21 : xe_look (xc 269) 21 = some (.bastore, 1, 0, 0, 0) := by decide +kernel
theorem qyp_22 : xe_look (xc 269) 22 = some (.aload_n 0, 1, 0, 0, 0) := by decide +kernel
theorem qyp_23 : xe_look (xc 269) 23 = some (.aload_n 0, 1, 0, 0, 0) := by decide +kernel
theorem qyp_24 : xe_look (xc 269) 24 = some (.getfield 194, 3, 12, 17, 1132) := by decide +kernel
theorem qyp_27 : xe_look (xc 269) 27 = some (.iconst 1, 1, 0, 0, 0) := by decide +kernel
theorem qyp_28 : xe_look (xc 269) 28 = some (.iadd, 1, 0, 0, 0) := by decide +kernel
theorem qyp_29 : xe_look (xc 269) 29 = some (.putfield 194, 3, 12, 17, 1132) := by decide +kernel
theorem qyp_32 : xe_look (xc 269) 32 = some (.iinc 2 (-1), 3, 0, 0, 0) := by decide +kernel
theorem qyp_35 : xe_look (xc 269) 35 = some (.goto (-33), 3, 0, 0, 0) := by decide +kernel
theorem qyp_38 : xe_look (xc 269) 38 = some (.return_, 1, 0, 0, 0) := by decide +kernel
set_option maxHeartbeats 4000000 in
theorem yp_run {d W : Nat} (w_a211 : W.testBit (cn 211) = true) (w_17 : W.testBit (cn 196 + 17) = true) {h0 g : pH} (hJ : J_ W h0 g) {v : Int32} (he : 0 ≤ fF g 17 ∧ fF g 17 + 4 ≤ 260) {P : Option pv × pH → Prop} (hP : ∀ g1 : pH, J_ W h0 g1 → fF g1 17 = fF g 17 + 4 → fA g1 211 = apR v (fF g 17).toNat (fA g 211) → P (none, g1)) {lv : List (Nat × pv)} (l0 : px_lg lv 0 = some (pvR 196)) (l1 : px_lg lv 1 = some (.inl v)) : t_X d 269 0 lv [] g P := by
  refine t_0 qyp_0 rfl rfl ?_
  refine t_2 qyp_1 rfl (w := (px_s1 lv 2 (oI (3)), [])) rfl ?_
  replace l0 : px_lg (px_s1 lv 2 (oI (3))) 0 = some (pvR 196) := s1_ne (by decide) (fun _ => rfl) l0
  replace l1 : px_lg (px_s1 lv 2 (oI (3))) 1 = some (.inl (v)) := s1_ne (by decide) (fun _ => rfl) l1
  have l2 : px_lg (px_s1 lv 2 (oI (3))) 2 = some (oI (3)) := s1_eq
  generalize px_s1 lv 2 (oI (3)) = lv1 at l0 l1 l2 ⊢
  show t_X d 269 2 lv1 [] g P
  refine t_0 qyp_2 rfl (ld_i l2) ?_
  refine tz_lt qyp_3 (by decide) ⟨by omega, by omega⟩ (fun c2 => absurd c2 (by omega)) (fun c2 => ?_)
  show t_X d 269 6 lv1 [] g P
  refine t_0 qyp_6 rfl (ld_a l0) ?_
  refine t_0 qyp_7 rfl (ar_16 hJ.1) ?_
  refine t_0 qyp_10 rfl (ld_a l0) ?_
  have r3 := gb_f hJ.1 (y := 17) rfl rfl gf_17
  refine t_0 qyp_11 rfl (pq_gf (y := 17) rfl) ?_
  refine t_0 qyp_14 rfl (ld_i l1) ?_
  refine t_0 qyp_15 rfl (pq_b (by decide)) ?_
  refine t_0 qyp_17 rfl (ld_i l2) ?_
  refine t_0 qyp_18 rfl pq_mul ?_
  refine t_0 qyp_19 rfl rfl ?_
  refine t_0 qyp_20 rfl rfl ?_
  refine tw_y qyp_21 hJ el_211 rfl w_a211 gA_211 ⟨by omega, by omega⟩ (fun g4 hJ4 e4 => ?_)
  have u4 : fA g4 211 = updI (fA g 211) (fF g 17).toNat ((((v) >>> ((Int32.ofInt (8 * 3)) &&& 31)).toInt8.toInt32).toInt8.toInt32).toInt := by rw [e4]; exact fA_pu
  have v4 : fF g4 17 = fF g 17 := by rw [e4]; rfl
  show t_X d 269 22 lv1 [] g4 P
  refine t_0 qyp_22 rfl (ld_a l0) ?_
  refine t_0 qyp_23 rfl (ld_a l0) ?_
  have r5 := gb_f hJ4.1 (y := 17) rfl rfl gf_17
  refine t_0 qyp_24 rfl (pq_gf (y := 17) rfl) ?_
  refine t_0 qyp_27 rfl rfl ?_
  refine t_0 qyp_28 rfl pq_add ?_
  refine tw_f qyp_29 rfl hJ4 w_17 gf_17 (by decide) ⟨by omega, by omega⟩ (fun g6 hJ6 v6 f6 a6 => ?_)
  replace a6 := fA_2 a6
  have u6 : fA g6 211 = fA g4 211 := congrFun a6 211
  show t_X d 269 32 lv1 [] g6 P
  refine t_2 qyp_32 rfl (w := (px_s1 lv1 2 (oI (2)), [])) (pq_inc l2 (by decide)) ?_
  replace l0 : px_lg (px_s1 lv1 2 (oI (2))) 0 = some (pvR 196) := s1_ne (by decide) (fun _ => rfl) l0
  replace l1 : px_lg (px_s1 lv1 2 (oI (2))) 1 = some (.inl (v)) := s1_ne (by decide) (fun _ => rfl) l1
  have l2 : px_lg (px_s1 lv1 2 (oI (2))) 2 = some (oI (2)) := s1_eq
  generalize px_s1 lv1 2 (oI (2)) = lv7 at l0 l1 l2 ⊢
  show t_X d 269 35 lv7 [] g6 P
  refine t_1 qyp_35 rfl (pb_goto (pc := 35) (by decide)) ?_
  show t_X d 269 2 lv7 [] g6 P
  refine t_0 qyp_2 rfl (ld_i l2) ?_
  refine tz_lt qyp_3 (by decide) ⟨by omega, by omega⟩ (fun c8 => absurd c8 (by omega)) (fun c8 => ?_)
  show t_X d 269 6 lv7 [] g6 P
  refine t_0 qyp_6 rfl (ld_a l0) ?_
  refine t_0 qyp_7 rfl (ar_16 hJ6.1) ?_
  refine t_0 qyp_10 rfl (ld_a l0) ?_
  have r9 := gb_f hJ6.1 (y := 17) rfl rfl gf_17
  refine t_0 qyp_11 rfl (pq_gf (y := 17) rfl) ?_
  refine t_0 qyp_14 rfl (ld_i l1) ?_
  refine t_0 qyp_15 rfl (pq_b (by decide)) ?_
  refine t_0 qyp_17 rfl (ld_i l2) ?_
  refine t_0 qyp_18 rfl pq_mul ?_
  refine t_0 qyp_19 rfl rfl ?_
  refine t_0 qyp_20 rfl rfl ?_
  refine tw_y qyp_21 hJ6 el_211 rfl w_a211 gA_211 ⟨by omega, by omega⟩ (fun g10 hJ10 e10 => ?_)
  have u10 : fA g10 211 = updI (fA g6 211) (fF g6 17).toNat ((((v) >>> ((Int32.ofInt (8 * 2)) &&& 31)).toInt8.toInt32).toInt8.toInt32).toInt := by rw [e10]; exact fA_pu
  have v10 : fF g10 17 = fF g6 17 := by rw [e10]; rfl
  show t_X d 269 22 lv7 [] g10 P
  refine t_0 qyp_22 rfl (ld_a l0) ?_
  refine t_0 qyp_23 rfl (ld_a l0) ?_
  have r11 := gb_f hJ10.1 (y := 17) rfl rfl gf_17
  refine t_0 qyp_24 rfl (pq_gf (y := 17) rfl) ?_
  refine t_0 qyp_27 rfl rfl ?_
  refine t_0 qyp_28 rfl pq_add ?_
  refine tw_f qyp_29 rfl hJ10 w_17 gf_17 (by decide) ⟨by omega, by omega⟩ (fun g12 hJ12 v12 f12 a12 => ?_)
  replace a12 := fA_2 a12
  have u12 : fA g12 211 = fA g10 211 := congrFun a12 211
  show t_X d 269 32 lv7 [] g12 P
  refine t_2 qyp_32 rfl (w := (px_s1 lv7 2 (oI (1)), [])) (pq_inc l2 (by decide)) ?_
  replace l0 : px_lg (px_s1 lv7 2 (oI (1))) 0 = some (pvR 196) := s1_ne (by decide) (fun _ => rfl) l0
  replace l1 : px_lg (px_s1 lv7 2 (oI (1))) 1 = some (.inl (v)) := s1_ne (by decide) (fun _ => rfl) l1
  have l2 : px_lg (px_s1 lv7 2 (oI (1))) 2 = some (oI (1)) := s1_eq
  generalize px_s1 lv7 2 (oI (1)) = lv13 at l0 l1 l2 ⊢
  show t_X d 269 35 lv13 [] g12 P
  refine t_1 qyp_35 rfl (pb_goto (pc := 35) (by decide)) ?_
  show t_X d 269 2 lv13 [] g12 P
  refine t_0 qyp_2 rfl (ld_i l2) ?_
  refine tz_lt qyp_3 (by decide) ⟨by omega, by omega⟩ (fun c14 => absurd c14 (by omega)) (fun c14 => ?_)
  show t_X d 269 6 lv13 [] g12 P
  refine t_0 qyp_6 rfl (ld_a l0) ?_
  refine t_0 qyp_7 rfl (ar_16 hJ12.1) ?_
  refine t_0 qyp_10 rfl (ld_a l0) ?_
  have r15 := gb_f hJ12.1 (y := 17) rfl rfl gf_17
  refine t_0 qyp_11 rfl (pq_gf (y := 17) rfl) ?_
  refine t_0 qyp_14 rfl (ld_i l1) ?_
  refine t_0 qyp_15 rfl (pq_b (by decide)) ?_
  refine t_0 qyp_17 rfl (ld_i l2) ?_
  refine t_0 qyp_18 rfl pq_mul ?_
  refine t_0 qyp_19 rfl rfl ?_
  refine t_0 qyp_20 rfl rfl ?_
  refine tw_y qyp_21 hJ12 el_211 rfl w_a211 gA_211 ⟨by omega, by omega⟩ (fun g16 hJ16 e16 => ?_)
  have u16 : fA g16 211 = updI (fA g12 211) (fF g12 17).toNat ((((v) >>> ((Int32.ofInt (8 * 1)) &&& 31)).toInt8.toInt32).toInt8.toInt32).toInt := by rw [e16]; exact fA_pu
  have v16 : fF g16 17 = fF g12 17 := by rw [e16]; rfl
  show t_X d 269 22 lv13 [] g16 P
  refine t_0 qyp_22 rfl (ld_a l0) ?_
  refine t_0 qyp_23 rfl (ld_a l0) ?_
  have r17 := gb_f hJ16.1 (y := 17) rfl rfl gf_17
  refine t_0 qyp_24 rfl (pq_gf (y := 17) rfl) ?_
  refine t_0 qyp_27 rfl rfl ?_
  refine t_0 qyp_28 rfl pq_add ?_
  refine tw_f qyp_29 rfl hJ16 w_17 gf_17 (by decide) ⟨by omega, by omega⟩ (fun g18 hJ18 v18 f18 a18 => ?_)
  replace a18 := fA_2 a18
  have u18 : fA g18 211 = fA g16 211 := congrFun a18 211
  show t_X d 269 32 lv13 [] g18 P
  refine t_2 qyp_32 rfl (w := (px_s1 lv13 2 (oI (0)), [])) (pq_inc l2 (by decide)) ?_
  replace l0 : px_lg (px_s1 lv13 2 (oI (0))) 0 = some (pvR 196) := s1_ne (by decide) (fun _ => rfl) l0
  replace l1 : px_lg (px_s1 lv13 2 (oI (0))) 1 = some (.inl (v)) := s1_ne (by decide) (fun _ => rfl) l1
  have l2 : px_lg (px_s1 lv13 2 (oI (0))) 2 = some (oI (0)) := s1_eq
  generalize px_s1 lv13 2 (oI (0)) = lv19 at l0 l1 l2 ⊢
  show t_X d 269 35 lv19 [] g18 P
  refine t_1 qyp_35 rfl (pb_goto (pc := 35) (by decide)) ?_
  show t_X d 269 2 lv19 [] g18 P
  refine t_0 qyp_2 rfl (ld_i l2) ?_
  refine tz_lt qyp_3 (by decide) ⟨by omega, by omega⟩ (fun c20 => absurd c20 (by omega)) (fun c20 => ?_)
  show t_X d 269 6 lv19 [] g18 P
  refine t_0 qyp_6 rfl (ld_a l0) ?_
  refine t_0 qyp_7 rfl (ar_16 hJ18.1) ?_
  refine t_0 qyp_10 rfl (ld_a l0) ?_
  have r21 := gb_f hJ18.1 (y := 17) rfl rfl gf_17
  refine t_0 qyp_11 rfl (pq_gf (y := 17) rfl) ?_
  refine t_0 qyp_14 rfl (ld_i l1) ?_
  refine t_0 qyp_15 rfl (pq_b (by decide)) ?_
  refine t_0 qyp_17 rfl (ld_i l2) ?_
  refine t_0 qyp_18 rfl pq_mul ?_
  refine t_0 qyp_19 rfl rfl ?_
  refine t_0 qyp_20 rfl rfl ?_
  refine tw_y qyp_21 hJ18 el_211 rfl w_a211 gA_211 ⟨by omega, by omega⟩ (fun g22 hJ22 e22 => ?_)
  have u22 : fA g22 211 = updI (fA g18 211) (fF g18 17).toNat ((((v) >>> ((Int32.ofInt (8 * 0)) &&& 31)).toInt8.toInt32).toInt8.toInt32).toInt := by rw [e22]; exact fA_pu
  have v22 : fF g22 17 = fF g18 17 := by rw [e22]; rfl
  show t_X d 269 22 lv19 [] g22 P
  refine t_0 qyp_22 rfl (ld_a l0) ?_
  refine t_0 qyp_23 rfl (ld_a l0) ?_
  have r23 := gb_f hJ22.1 (y := 17) rfl rfl gf_17
  refine t_0 qyp_24 rfl (pq_gf (y := 17) rfl) ?_
  refine t_0 qyp_27 rfl rfl ?_
  refine t_0 qyp_28 rfl pq_add ?_
  refine tw_f qyp_29 rfl hJ22 w_17 gf_17 (by decide) ⟨by omega, by omega⟩ (fun g24 hJ24 v24 f24 a24 => ?_)
  replace a24 := fA_2 a24
  have u24 : fA g24 211 = fA g22 211 := congrFun a24 211
  show t_X d 269 32 lv19 [] g24 P
  refine t_2 qyp_32 rfl (w := (px_s1 lv19 2 (oI ((-1))), [])) (pq_inc l2 (by decide)) ?_
  replace l0 : px_lg (px_s1 lv19 2 (oI ((-1)))) 0 = some (pvR 196) := s1_ne (by decide) (fun _ => rfl) l0
  replace l1 : px_lg (px_s1 lv19 2 (oI ((-1)))) 1 = some (.inl (v)) := s1_ne (by decide) (fun _ => rfl) l1
  have l2 : px_lg (px_s1 lv19 2 (oI ((-1)))) 2 = some (oI ((-1))) := s1_eq
  generalize px_s1 lv19 2 (oI ((-1))) = lv25 at l0 l1 l2 ⊢
  show t_X d 269 35 lv25 [] g24 P
  refine t_1 qyp_35 rfl (pb_goto (pc := 35) (by decide)) ?_
  show t_X d 269 2 lv25 [] g24 P
  refine t_0 qyp_2 rfl (ld_i l2) ?_
  refine tz_lt qyp_3 (by decide) ⟨by omega, by omega⟩ (fun c26 => ?_) (fun c26 => absurd c26 (by omega))
  show t_X d 269 38 lv25 [] g24 P
  refine t_5 qyp_38 rfl rfl ?_
  refine hP _ hJ24 (by omega) ?_
  rw [u24, u22, u18, u16, u12, u10, u6, u4]
  rw [show (fF g6 17).toNat = (fF g 17).toNat + 1 by omega]
  rw [show (fF g12 17).toNat = (fF g 17).toNat + 2 by omega]
  rw [show (fF g18 17).toNat = (fF g 17).toNat + 3 by omega]
  rfl
set_option maxHeartbeats 4000000 in
theorem fm_run {d W : Nat} (hd : 1 ≤ d) (w_a211 : W.testBit (cn 211) = true) (w_17 : W.testBit (cn 196 + 17) = true) {h0 g : pH} (hJ : J_ W h0 g) {a1 a2 a3 a4 a5 : Int32} {P : Option pv × pH → Prop} (hP0 : 260 < fF g 17 + 20 → P (some (oI (-1)), g)) (hP1 : ∀ g1 : pH, J_ W h0 g1 → fF g 17 + 20 ≤ 260 → fF g1 17 = fF g 17 + 20 → fA g1 211 = apR a5 ((fF g 17).toNat + 16) (apR a4 ((fF g 17).toNat + 12) (apR a3 ((fF g 17).toNat + 8) (apR a2 ((fF g 17).toNat + 4) (apR a1 (fF g 17).toNat (fA g 211))))) → P (some (oI (fF g 17 + 20)), g1)) {lv : List (Nat × pv)} (l0 : px_lg lv 0 = some (pvR 196)) (l1 : px_lg lv 1 = some (.inl a1)) (l2 : px_lg lv 2 = some (.inl a2)) (l3 : px_lg lv 3 = some (.inl a3)) (l4 : px_lg lv 4 = some (.inl a4)) (l5 : px_lg lv 5 = some (.inl a5)) : t_X d 189 0 lv [] g P := by
  refine t_0 qfm_0 rfl (ld_a l0) ?_
  have r1 := gb_f hJ.1 (y := 17) rfl rfl gf_17
  refine t_0 qfm_1 rfl (pq_gf (y := 17) rfl) ?_
  refine t_0 qfm_4 rfl (pq_b (by decide)) ?_
  refine t_0 qfm_6 rfl pq_add ?_
  refine t_0 qfm_7 rfl (pq_s (by decide)) ?_
  refine tb_le qfm_10 (by decide) ⟨by omega, by omega⟩ ⟨by omega, by omega⟩ (fun c2 => ?_) (fun c2 => ?_)
  · show t_X d 189 15 lv [] g P
    refine t_0 qfm_15 rfl (ld_a l0) ?_
    refine t_0 qfm_16 rfl (ld_i l1) ?_
    refine t_3 qfm_17 rfl (ar := ([pvR 196, .inl (a1)], [])) (pcal_v1 rfl rfl el_196) ⟨by omega, Nat.le_of_ble_eq_true rfl, Nat.le_of_ble_eq_true rfl, rfl⟩ ?_
    refine yp_run w_a211 w_17 hJ (by omega) (fun g3 hJ3 v3 u3 => ?_) rfl rfl
    show t_X d 189 20 lv [] g3 P
    refine t_0 qfm_20 rfl (ld_a l0) ?_
    refine t_0 qfm_21 rfl (ld_i l2) ?_
    refine t_3 qfm_22 rfl (ar := ([pvR 196, .inl (a2)], [])) (pcal_v1 rfl rfl el_196) ⟨by omega, Nat.le_of_ble_eq_true rfl, Nat.le_of_ble_eq_true rfl, rfl⟩ ?_
    refine yp_run w_a211 w_17 hJ3 (by omega) (fun g4 hJ4 v4 u4 => ?_) rfl rfl
    show t_X d 189 25 lv [] g4 P
    refine t_0 qfm_25 rfl (ld_a l0) ?_
    refine t_0 qfm_26 rfl (ld_i l3) ?_
    refine t_3 qfm_27 rfl (ar := ([pvR 196, .inl (a3)], [])) (pcal_v1 rfl rfl el_196) ⟨by omega, Nat.le_of_ble_eq_true rfl, Nat.le_of_ble_eq_true rfl, rfl⟩ ?_
    refine yp_run w_a211 w_17 hJ4 (by omega) (fun g5 hJ5 v5 u5 => ?_) rfl rfl
    show t_X d 189 30 lv [] g5 P
    refine t_0 qfm_30 rfl (ld_a l0) ?_
    refine t_0 qfm_31 rfl (ld_i l4) ?_
    refine t_3 qfm_33 rfl (ar := ([pvR 196, .inl (a4)], [])) (pcal_v1 rfl rfl el_196) ⟨by omega, Nat.le_of_ble_eq_true rfl, Nat.le_of_ble_eq_true rfl, rfl⟩ ?_
    refine yp_run w_a211 w_17 hJ5 (by omega) (fun g6 hJ6 v6 u6 => ?_) rfl rfl
    show t_X d 189 36 lv [] g6 P
    refine t_0 qfm_36 rfl (ld_a l0) ?_
    refine t_0 qfm_37 rfl (ld_i l5) ?_
    refine t_3 qfm_39 rfl (ar := ([pvR 196, .inl (a5)], [])) (pcal_v1 rfl rfl el_196) ⟨by omega, Nat.le_of_ble_eq_true rfl, Nat.le_of_ble_eq_true rfl, rfl⟩ ?_
    refine yp_run w_a211 w_17 hJ6 (by omega) (fun g7 hJ7 v7 u7 => ?_) rfl rfl
    show t_X d 189 42 lv [] g7 P
    refine t_0 qfm_42 rfl (ld_a l0) ?_
    have r8 := gb_f hJ7.1 (y := 17) rfl rfl gf_17
    refine t_0 qfm_43 rfl (pq_gf (y := 17) rfl) ?_
    refine t_5 qfm_46 rfl rfl ?_
    rw [show fF g7 17 = fF g 17 + 20 by omega]
    refine hP1 _ hJ7 (by omega) (by omega) ?_
    rw [u7, u6, u5, u4, u3]
    rw [show (fF g3 17).toNat = (fF g 17).toNat + 4 by omega]
    rw [show (fF g4 17).toNat = (fF g 17).toNat + 8 by omega]
    rw [show (fF g5 17).toNat = (fF g 17).toNat + 12 by omega]
    rw [show (fF g6 17).toNat = (fF g 17).toNat + 16 by omega]
  · show t_X d 189 13 lv [] g P
    refine t_0 qfm_13 rfl rfl ?_
    refine t_5 qfm_14 rfl rfl ?_
    exact hP0 (by omega)
end
section
/-! the tie: slide of the class (printed by wip/e2/t5.py) -/
theorem qyp9_0 : xe_look (xc 152) 0 = some (.iconst 0, 1, 0, 0, 0) := by decide +kernel
theorem qyp9_1 : xe_look (xc 152) 1 = some (.istore_n 1, 1, 0, 0, 0) := by decide +kernel
theorem qyp9_2 : xe_look (xc 152) 2 = some (.iload_n 1, 1, 0, 0, 0) := by decide +kernel
theorem qyp9_3 : xe_look (xc 152) 3 = some (.bipush 25, 2, 0, 0, 0) := by decide +kernel
theorem qyp9_5 : xe_look (xc 152) 5 = some (.if_icmp .ge 38, 3, 0, 0, 0) := by decide +kernel
theorem qyp9_8 : xe_look (xc 152) 8 = some (.aload_n 0, 1, 0, 0, 0) := by decide +kernel
theorem qyp9_9 : xe_look (xc 152) 9 = some (.getfield 9, 3, 11, 0, 982) := by decide +kernel
theorem qyp9_12 : xe_look (xc 152) 12 = some (.iload_n 1, 1, 0, 0, 0) := by decide +kernel
theorem qyp9_13 : xe_look (xc 152) 13 = some (.iaload, 1, 0, 0, 0) := by decide +kernel
theorem qyp9_14 : xe_look (xc 152) 14 = some (.bipush 46, 2, 0, 0, 0) := by decide +kernel
theorem qyp9_16 : xe_look (xc 152) 16 = some (.if_icmp .eq 21, 3, 0, 0, 0) := by decide +kernel
theorem qyp9_19 : xe_look (xc 152) 19 = some (.aload_n 0, 1, 0, 0, 0) := by decide +kernel
theorem qyp9_20 : xe_look (xc 152) 20 = some (.getfield 9, 3, 11, 0, 982) := by decide +kernel
theorem qyp9_23 : xe_look (xc 152) 23 = some (.iload_n 1, 1, 0, 0, 0) := by decide +kernel
theorem qyp9_24 : xe_look (xc 152) 24 = some (.iaload, 1, 0, 0, 0) := by decide +kernel
theorem qyp9_25 : xe_look (xc 152) 25 = some (.bipush 97, 2, 0, 0, 0) := by decide +kernel
theorem qyp9_27 : xe_look (xc 152) 27 = some (.bipush 122, 2, 0, 0, 0) := by decide +kernel
theorem qyp9_29 : xe_look (xc 152) 29 = some (.invokestatic 89, 3, 0, 124, 994) := by decide +kernel
theorem qyp9_32 : xe_look (xc 152) 32 = some (.ifCond .ne 5, 3, 0, 0, 0) := by decide +kernel
theorem qyp9_35 : xe_look (xc 152) 35 = some (.iconst 0, 1, 0, 0, 0) := by decide +kernel
theorem qyp9_36 : xe_look (xc 152) 36 = some (.ireturn, 1, 0, 0, 0) := by decide +kernel
theorem qyp9_37 : xe_look (xc 152) 37 = some (.iinc 1 1, 3, 0, 0, 0) := by decide +kernel
theorem qyp9_40 : xe_look (xc 152) 40 = some (.goto (-38), 3, 0, 0, 0) := by decide +kernel
theorem qyp9_43 : xe_look (xc 152) 43 = some (.iconst 1, 1, 0, 0, 0) := by decide +kernel
theorem qyp9_44 : xe_look (xc 152) 44 = some (.ireturn, 1, 0, 0, 0) := by decide +kernel
theorem qysl_0 : xe_look (xc 147) 0 = some (.iload_n 1, 1, 0, 0, 0) := by decide +kernel
theorem qysl_1 : xe_look (xc 147) 1 = some (.iconst 0, 1, 0, 0, 0) := by decide +kernel
theorem qysl_2 : xe_look (xc 147) 2 = some (.bipush 31, 2, 0, 0, 0) := by decide +kernel
theorem qysl_4 : xe_look (xc 147) 4 = some (.invokestatic 89, 3, 0, 124, 994) := by decide +kernel
theorem qysl_7 : xe_look (xc 147) 7 = some (.ifCond .eq 32, 3, 0, 0, 0) := by decide +kernel
theorem qysl_10 : xe_look (xc 147) 10 = some (.iload_n 2, 1, 0, 0, 0) := by decide +kernel
theorem qysl_11 : xe_look (xc 147) 11 = some (.iconst 0, 1, 0, 0, 0) := by decide +kernel
theorem qysl_12 : xe_look (xc 147) 12 = some (.iconst 3, 1, 0, 0, 0) := by decide +kernel
theorem qysl_13 : xe_look (xc 147) 13 = some (.invokestatic 89, 3, 0, 124, 994) := by decide +kernel
theorem qysl_16 : xe_look (xc 147) 16 = some (.ifCond .eq 23, 3, 0, 0, 0) := by decide +kernel
theorem qysl_19 : xe_look (xc 147) 19 = some (.iload_n 3, 1, 0, 0, 0) := by decide +kernel
theorem qysl_20 : xe_look (xc 147) 20 = some (.iconst 0, 1, 0, 0, 0) := by decide +kernel
theorem qysl_21 : xe_look (xc 147) 21 = some (.iconst 3, 1, 0, 0, 0) := by decide +kernel
theorem qysl_22 : xe_look (xc 147) 22 = some (.invokestatic 89, 3, 0, 124, 994) := by decide +kernel
theorem qysl_25 : xe_look (xc 147) 25 = some (.ifCond .eq 14, 3, 0, 0, 0) := by decide +kernel
theorem qysl_28 : xe_look (xc 147) 28 = some (.iload 4, 2, 0, 0, 0) := by decide +kernel
theorem qysl_30 : xe_look (xc 147) 30 = some (.iconst 0, 1, 0, 0, 0) := by decide +kernel
theorem qysl_31 : xe_look (xc 147) 31 = some (.bipush 99, 2, 0, 0, 0) := by decide +kernel
theorem qysl_33 : xe_look (xc 147) 33 = some (.invokestatic 89, 3, 0, 124, 994) := by decide +kernel
theorem qysl_36 : xe_look (xc 147) 36 = some (.ifCond .ne 5, 3, 0, 0, 0) := by decide +kernel
theorem qysl_41 : xe_look (xc 147) 41 = some (.aload_n 0, 1, 0, 0, 0) := by decide +kernel
theorem qysl_42 : xe_look (xc 147) 42 = some (.getfield 81, 3, 11, 1, 981) := by decide +kernel
theorem qysl_45 : xe_look (xc 147) 45 = some (.bipush 25, 2, 0, 0, 0) := by decide +kernel
theorem qysl_47 : xe_look (xc 147) 47 = some (.if_icmp .ge 5, 3, 0, 0, 0) := by decide +kernel
theorem qysl_52 : xe_look (xc 147) 52 = some (.aload_n 0, 1, 0, 0, 0) := by decide +kernel
theorem qysl_53 : xe_look (xc 147) 53 = some (.iconst 0, 1, 0, 0, 0) := by decide +kernel
theorem qysl_54 : xe_look (xc 147) 54 = some (.putfield 81, 3, 11, 1, 981) := by decide +kernel
theorem qysl_57 : xe_look (xc 147) 57 = some (.aload_n 0, 1, 0, 0, 0) := by decide +kernel
theorem qysl_58 : xe_look (xc 147) 58 = some (.invokevirtual 93, 3, 0, 152, 1095) := by decide +kernel
theorem qysl_61 : xe_look (xc 147) 61 = some (.ifCond .ne 5, 3, 0, 0, 0) := by decide +kernel
theorem qysl_64 : xe_look (xc 147) 64 = some (.iconst 0, 1, 0, 0, 0) := by decide +kernel
theorem qysl_65 : xe_look (xc 147) 65 = some (.ireturn, 1, 0, 0, 0) := by decide +kernel
theorem qysl_66 : xe_look (xc 147) 66 = some (.aload_n 0, 1, 0, 0, 0) := by decide +kernel
theorem qysl_67 : xe_look (xc 147) 67 = some (.getfield 16, 3, 11, 2, 983) := by decide +kernel
theorem qysl_70 : xe_look (xc 147) 70 = some (.getfield 97, 3, 8, 0, 1096) := by decide +kernel
theorem qysl_73 : xe_look (xc 147) 73 = some (.iload_n 1, 1, 0, 0, 0) := by decide +kernel
theorem qysl_74 : xe_look (xc 147) 74 = some (.aaload, 1, 0, 0, 0) := by decide +kernel
theorem qysl_75 : xe_look (xc 147) 75 = some (.aload_n 0, 1, 0, 0, 0) := by decide +kernel
theorem qysl_76 : xe_look (xc 147) 76 = some (.getfield 9, 3, 11, 0, 982) := by decide +kernel
theorem qysl_79 : xe_look (xc 147) 79 = some (.iload_n 2, 1, 0, 0, 0) := by decide +kernel
theorem qysl_80 : xe_look (xc 147) 80 = some (.iload_n 3, 1, 0, 0, 0) := by decide +kernel
theorem qysl_81 : xe_look (xc 147) 81 = some (.iload 4, 2, 0, 0, 0) := by decide +kernel
theorem qysl_83 : xe_look (xc 147) 83 = some (.invokevirtual 101, 3, 0, 78, 1097) := by decide +kernel
theorem qysl_86 : xe_look (xc 147) 86 = some (.iconst 1, 1, 0, 0, 0) := by decide +kernel
theorem qysl_87 : xe_look (xc 147) 87 = some (.ireturn, 1, 0, 0, 0) := by decide +kernel
theorem rS_2 {g g1 : pH} {f : Nat → Nat → Int32} (e : g1 = (f, g.2)) (h : rS g) : rS g1 := by
  rw [e]
  exact h
theorem rS_M {W : Nat} {g g1 : pH} (hM : f_M W g g1) (h3 : W.testBit (cn 3) = false ∧ W.testBit (cn 77) = false) (h : rS g) : rS g1 := fun j hj => by
  rw [(hM.2 3 h3.1).2.2, (hM.2 77 h3.2).2.2]
  exact h j hj
def picC (g : pH) : Prop := ∀ k, k < 25 → fA g 1 k = 46 ∨ (97 ≤ fA g 1 k ∧ fA g 1 k ≤ 122)
set_option maxHeartbeats 2000000 in
theorem tp_loop {d : Nat} (hd : 1 ≤ d) {g : pH} (hG : g_I eG g) {P : Option pv × pH → Prop} (hA : picC g → P (some (oI 1), g)) (hB : ¬ picC g → P (some (oI 0), g)) : ∀ (n m : Nat) (lv : List (Nat × pv)), 25 - m ≤ n → m ≤ 25 → (∀ k, k < m → fA g 1 k = 46 ∨ (97 ≤ fA g 1 k ∧ fA g 1 k ≤ 122)) → px_lg lv 0 = some (pvR 0) → px_lg lv 1 = some (oI (m : Int)) → t_X d 152 2 lv [] g P := by
  have hJ : J_ 0 g g := J_rf hG
  intro n
  induction n with
  | zero =>
    intro m lv hn hm hp l0 l1
    refine t_0 qyp9_2 rfl (ld_i l1) ?_
    refine t_0 qyp9_3 rfl (pq_b (by decide)) ?_
    refine tb_ge qyp9_5 (by decide) ⟨by omega, by omega⟩ ⟨by omega, by omega⟩ (fun c1 => ?_) (fun c1 => absurd c1 (by omega))
    show t_X d 152 43 lv [] g P
    refine t_0 qyp9_43 rfl rfl ?_
    refine t_5 qyp9_44 rfl rfl ?_
    exact hA (fun k hk => hp k (by omega))
  | succ n ih =>
    intro m lv hn hm2 hp l0 l1
    by_cases hm : m < 25
    · skip
      refine t_0 qyp9_2 rfl (ld_i l1) ?_
      refine t_0 qyp9_3 rfl (pq_b (by decide)) ?_
      refine tb_ge qyp9_5 (by decide) ⟨by omega, by omega⟩ ⟨by omega, by omega⟩ (fun c1 => absurd c1 (by omega)) (fun c1 => ?_)
      show t_X d 152 8 lv [] g P
      refine t_0 qyp9_8 rfl (ld_a l0) ?_
      refine t_0 qyp9_9 rfl (cr_0_0 hJ.1) ?_
      refine t_0 qyp9_12 rfl (ld_i l1) ?_
      refine t_0 qyp9_13 rfl (pq_ia el_1 rfl ⟨by omega, by omega⟩) ?_
      show t_X d 152 14 lv [oI (fA g 1 m)] g P
      have r2 := fA_b g 1 m
      refine t_0 qyp9_14 rfl (pq_b (by decide)) ?_
      refine tb_eq qyp9_16 (by decide) ⟨by omega, by omega⟩ ⟨by omega, by omega⟩ (fun c3 => ?_) (fun c3 => ?_)
      · show t_X d 152 37 lv [] g P
        refine t_2 qyp9_37 rfl (w := (px_s1 lv 1 (oI ((m : Int) + 1)), [])) (pq_inc l1 (by decide)) ?_
        replace l0 : px_lg (px_s1 lv 1 (oI ((m : Int) + 1))) 0 = some (pvR 0) := s1_ne (by decide) (fun _ => rfl) l0
        have l1 : px_lg (px_s1 lv 1 (oI ((m : Int) + 1))) 1 = some (oI ((m : Int) + 1)) := s1_eq
        generalize px_s1 lv 1 (oI ((m : Int) + 1)) = lv4 at l0 l1 ⊢
        show t_X d 152 40 lv4 [] g P
        refine t_1 qyp9_40 rfl (pb_goto (pc := 40) (by decide)) ?_
        show t_X d 152 2 lv4 [] g P
        exact ih (m + 1) _ (by omega) (by omega) (fun k hk => by rcases Nat.lt_or_ge k m with z | z; exact hp k z; rw [show k = m by omega]; omega) l0 l1
      · show t_X d 152 19 lv [] g P
        refine t_0 qyp9_19 rfl (ld_a l0) ?_
        refine t_0 qyp9_20 rfl (cr_0_0 hJ.1) ?_
        refine t_0 qyp9_23 rfl (ld_i l1) ?_
        refine t_0 qyp9_24 rfl (pq_ia el_1 rfl ⟨by omega, by omega⟩) ?_
        show t_X d 152 25 lv [oI (fA g 1 m)] g P
        have r5 := fA_b g 1 m
        refine t_0 qyp9_25 rfl (pq_b (by decide)) ?_
        refine t_0 qyp9_27 rfl (pq_b (by decide)) ?_
        refine t_3 qyp9_29 rfl (ar := ([oI (fA g 1 m), oI (97), oI (122)], [])) (pcal_s ⟨Or.inl rfl, rfl, Nat.le_of_ble_eq_true rfl⟩) ⟨by omega, Nat.le_of_ble_eq_true rfl, Nat.le_of_ble_eq_true rfl, rfl⟩ ?_
        refine ii_run ⟨by omega, by omega⟩ ⟨by omega, by omega⟩ ⟨by omega, by omega⟩ rfl rfl rfl (fun t6 => ?_) (fun t6 => ?_)
        · show t_X d 152 32 lv [oI (1)] g P
          refine tz_ne qyp9_32 (by decide) ⟨by omega, by omega⟩ (fun c7 => ?_) (fun c7 => absurd c7 (by omega))
          show t_X d 152 37 lv [] g P
          refine t_2 qyp9_37 rfl (w := (px_s1 lv 1 (oI ((m : Int) + 1)), [])) (pq_inc l1 (by decide)) ?_
          replace l0 : px_lg (px_s1 lv 1 (oI ((m : Int) + 1))) 0 = some (pvR 0) := s1_ne (by decide) (fun _ => rfl) l0
          have l1 : px_lg (px_s1 lv 1 (oI ((m : Int) + 1))) 1 = some (oI ((m : Int) + 1)) := s1_eq
          generalize px_s1 lv 1 (oI ((m : Int) + 1)) = lv8 at l0 l1 ⊢
          show t_X d 152 40 lv8 [] g P
          refine t_1 qyp9_40 rfl (pb_goto (pc := 40) (by decide)) ?_
          show t_X d 152 2 lv8 [] g P
          exact ih (m + 1) _ (by omega) (by omega) (fun k hk => by rcases Nat.lt_or_ge k m with z | z; exact hp k z; rw [show k = m by omega]; omega) l0 l1
        · show t_X d 152 32 lv [oI (0)] g P
          refine tz_ne qyp9_32 (by decide) ⟨by omega, by omega⟩ (fun c9 => absurd c9 (by omega)) (fun c9 => ?_)
          show t_X d 152 35 lv [] g P
          refine t_0 qyp9_35 rfl rfl ?_
          refine t_5 qyp9_36 rfl rfl ?_
          exact hB (fun z => by have z1 := z m (by omega); omega)
    · skip
      refine t_0 qyp9_2 rfl (ld_i l1) ?_
      refine t_0 qyp9_3 rfl (pq_b (by decide)) ?_
      refine tb_ge qyp9_5 (by decide) ⟨by omega, by omega⟩ ⟨by omega, by omega⟩ (fun c1 => ?_) (fun c1 => absurd c1 (by omega))
      show t_X d 152 43 lv [] g P
      refine t_0 qyp9_43 rfl rfl ?_
      refine t_5 qyp9_44 rfl rfl ?_
      exact hA (fun k hk => hp k (by omega))
theorem tp_run {d : Nat} (hd : 1 ≤ d) {g : pH} (hG : g_I eG g) {P : Option pv × pH → Prop} (hA : picC g → P (some (oI 1), g)) (hB : ¬ picC g → P (some (oI 0), g)) {lv : List (Nat × pv)} (l0 : px_lg lv 0 = some (pvR 0)) : t_X d 152 0 lv [] g P := by
  have hJ : J_ 0 g g := J_rf hG
  refine t_0 qyp9_0 rfl rfl ?_
  refine t_2 qyp9_1 rfl (w := (px_s1 lv 1 (oI (0)), [])) rfl ?_
  replace l0 : px_lg (px_s1 lv 1 (oI (0))) 0 = some (pvR 0) := s1_ne (by decide) (fun _ => rfl) l0
  have l1 : px_lg (px_s1 lv 1 (oI (0))) 1 = some (oI (0)) := s1_eq
  generalize px_s1 lv 1 (oI (0)) = lv1 at l0 l1 ⊢
  show t_X d 152 2 lv1 [] g P
  exact tp_loop hd hG hA hB 25 0 _ (by omega) (by omega) (fun k hk => absurd hk (by omega)) l0 l1
/-- the cells of a slide that telling it writes -/
def WT (m : Nat) : Nat := 2 ^ (cn (4 + 2 * m) + 2) + 2 ^ (cn (4 + 2 * m) + 3) + 2 ^ (cn (4 + 2 * m) + 4) + 2 ^ (cn (4 + 2 * m) + 5) + 2 ^ (cn (4 + 2 * m) + 6) + 2 ^ (cn (4 + 2 * m) + 7) + 2 ^ (cn (4 + 2 * m) + 8) + 2 ^ cn (5 + 2 * m)
def kT (m : Nat) : eK := (78, (3, [(0, 2, (0, 100000, [5 + 2 * m])), (1, 2, (0, 100000, [2])), (2, 0, (0, 3, [])), (3, 0, (0, 3, [])), (4, 0, (0, 99, []))], [(0, 1, 0, (0, 0, []))], []), (0, []), WT m, [(none, [(4 + 2 * m, 2, 0, (1, 1, []))], [])])
def cT (m : Nat) : List eCc := [(51, (3, [(0, 2, (0, 100000, [5 + 2 * m])), (5, 0, (0, 8, []))], [(0, 1, 0, (0, 0, [])), (4 + 2 * m, 2, 0, (1, 1, []))], []), (8, [(2, (-1))]))]
theorem eTl : (List.range 32).all (fun m => ex_mid eG eKT eDX 4000 (kT m) (cT m) 0) = true := by decide +kernel
theorem eTl_at {m : Nat} (h : m < 32) : ex_mid eG eKT eDX 4000 (kT m) (cT m) 0 = true := List.all_eq_true.mp eTl m (List.mem_range.mpr h)
theorem WT_k : ∀ m, m < 32 → WT m &&& kk_2.2.2.2.1 = WT m ∧ (WT m).testBit (cn 0 + 1) = false := by decide +kernel
theorem WT_n : ∀ m, m < 32 → ∀ j, j < 32 → j ≠ m → (WT m).testBit (cn (4 + 2 * j) + 2) = false := by decide +kernel
theorem Wsl_b : kk_2.2.2.2.1.testBit (cn 0 + 1) = true ∧ kk_2.2.2.2.1 &&& eDX = 0 ∧ kk_2.2.2.2.1.testBit (cn 3) = false ∧ kk_2.2.2.2.1.testBit (cn 77) = false := by decide +kernel
def kcsl_1 : eK := (147, (1, [(0, 2, (0, 100000, [1])), (1, 0, ((-2147483648), (-1), [])), (2, 0, ((-2147483648), 2147483647, [])), (3, 0, ((-2147483648), 2147483647, [])), (4, 0, ((-2147483648), 2147483647, []))], [], []), (0, []), 0, [(some (0, (0, 0, [])), [], [])])
theorem ecsl_1 : ex_mid eG eKT eDX 4000 kcsl_1 [] 0 = true := by decide +kernel
def kcsl_2 : eK := (147, (1, [(0, 2, (0, 100000, [1])), (1, 0, (32, 2147483647, [])), (2, 0, ((-2147483648), 2147483647, [])), (3, 0, ((-2147483648), 2147483647, [])), (4, 0, ((-2147483648), 2147483647, []))], [], []), (0, []), 0, [(some (0, (0, 0, [])), [], [])])
theorem ecsl_2 : ex_mid eG eKT eDX 4000 kcsl_2 [] 0 = true := by decide +kernel
def kcsl_3 : eK := (147, (1, [(0, 2, (0, 100000, [1])), (1, 0, ((-2147483648), 2147483647, [])), (2, 0, ((-2147483648), (-1), [])), (3, 0, ((-2147483648), 2147483647, [])), (4, 0, ((-2147483648), 2147483647, []))], [], []), (0, []), 0, [(some (0, (0, 0, [])), [], [])])
theorem ecsl_3 : ex_mid eG eKT eDX 4000 kcsl_3 [] 0 = true := by decide +kernel
def kcsl_4 : eK := (147, (1, [(0, 2, (0, 100000, [1])), (1, 0, ((-2147483648), 2147483647, [])), (2, 0, (4, 2147483647, [])), (3, 0, ((-2147483648), 2147483647, [])), (4, 0, ((-2147483648), 2147483647, []))], [], []), (0, []), 0, [(some (0, (0, 0, [])), [], [])])
theorem ecsl_4 : ex_mid eG eKT eDX 4000 kcsl_4 [] 0 = true := by decide +kernel
def kcsl_5 : eK := (147, (1, [(0, 2, (0, 100000, [1])), (1, 0, ((-2147483648), 2147483647, [])), (2, 0, ((-2147483648), 2147483647, [])), (3, 0, ((-2147483648), (-1), [])), (4, 0, ((-2147483648), 2147483647, []))], [], []), (0, []), 0, [(some (0, (0, 0, [])), [], [])])
theorem ecsl_5 : ex_mid eG eKT eDX 4000 kcsl_5 [] 0 = true := by decide +kernel
def kcsl_6 : eK := (147, (1, [(0, 2, (0, 100000, [1])), (1, 0, ((-2147483648), 2147483647, [])), (2, 0, ((-2147483648), 2147483647, [])), (3, 0, (4, 2147483647, [])), (4, 0, ((-2147483648), 2147483647, []))], [], []), (0, []), 0, [(some (0, (0, 0, [])), [], [])])
theorem ecsl_6 : ex_mid eG eKT eDX 4000 kcsl_6 [] 0 = true := by decide +kernel
def kcsl_7 : eK := (147, (1, [(0, 2, (0, 100000, [1])), (1, 0, ((-2147483648), 2147483647, [])), (2, 0, ((-2147483648), 2147483647, [])), (3, 0, ((-2147483648), 2147483647, [])), (4, 0, ((-2147483648), (-1), []))], [], []), (0, []), 0, [(some (0, (0, 0, [])), [], [])])
theorem ecsl_7 : ex_mid eG eKT eDX 4000 kcsl_7 [] 0 = true := by decide +kernel
def kcsl_8 : eK := (147, (1, [(0, 2, (0, 100000, [1])), (1, 0, ((-2147483648), 2147483647, [])), (2, 0, ((-2147483648), 2147483647, [])), (3, 0, ((-2147483648), 2147483647, [])), (4, 0, (100, 2147483647, []))], [], []), (0, []), 0, [(some (0, (0, 0, [])), [], [])])
theorem ecsl_8 : ex_mid eG eKT eDX 4000 kcsl_8 [] 0 = true := by decide +kernel
def kcsl_9 : eK := (147, (1, [(0, 2, (0, 100000, [1])), (1, 0, (0, 31, [])), (2, 0, (0, 3, [])), (3, 0, (0, 3, [])), (4, 0, (0, 99, []))], [(0, 1, 0, (0, 24, []))], []), (0, []), 0, [(some (0, (0, 0, [])), [], [])])
theorem ecsl_9 : ex_mid eG eKT eDX 4000 kcsl_9 [] 0 = true := by decide +kernel
theorem ok_t1 : ok_v (cv (pvR 1)) (0, 100000, [2]) := ⟨by decide, by decide, Or.inr (List.mem_singleton.mpr rfl)⟩
theorem pic_1 {g g1 : pH} {f : Nat → Nat → Int32} (e : g1 = (f, g.2)) (h : picC g) : picC g1 := by rw [e]; exact h
theorem pic_2 {g g1 : pH} {f : Nat → Nat → Int32} (e : g1 = (f, g.2)) (h : picC g1) : picC g := by rw [e] at h; exact h
set_option maxHeartbeats 4000000 in
theorem cs_run {d : Nat} (hd : 6 ≤ d) (hd2 : d ≤ 1000000) {g : pH} (hG : g_I eG g) (hx : xL g) (hS : rS g) {i a b c : Int} (hi : -2147483648 ≤ i ∧ i ≤ 2147483647) (ha : -2147483648 ≤ a ∧ a ≤ 2147483647) (hb9 : -2147483648 ≤ b ∧ b ≤ 2147483647) (hc : -2147483648 ≤ c ∧ c ≤ 2147483647) {P : Option pv × pH → Prop} (hA : ∀ m : Nat, m < 32 → i = m → (0 ≤ i ∧ i ≤ 31) ∧ (0 ≤ a ∧ a ≤ 3) ∧ (0 ≤ b ∧ b ≤ 3) ∧ (0 ≤ c ∧ c ≤ 99) ∧ 25 ≤ cF g 0 1 → picC g → ∀ g1 : pH, g_I eG g1 → xL g1 → f_M kk_2.2.2.2.1 g g1 → cF g1 0 1 = 0 → cF g1 (4 + 2 * m) 2 = 1 → (∀ j, j < 32 → j ≠ m → cF g1 (4 + 2 * j) 2 = cF g (4 + 2 * j) 2) → P (some (oI 1), g1)) (hB : (0 ≤ i ∧ i ≤ 31) ∧ (0 ≤ a ∧ a ≤ 3) ∧ (0 ≤ b ∧ b ≤ 3) ∧ (0 ≤ c ∧ c ≤ 99) ∧ 25 ≤ cF g 0 1 → ¬ picC g → ∀ g1 : pH, g_I eG g1 → xL g1 → f_M kk_2.2.2.2.1 g g1 → cF g1 0 1 = 0 → (∀ u v, ¬ (u = 0 ∧ v = 1) → cF g1 u v = cF g u v) → P (some (oI 0), g1)) (hR : ∀ g1 : pH, g_I eG g1 → xL g1 → f_M kk_2.2.2.2.1 g g1 → (∀ u v, cF g1 u v = cF g u v) → ¬ ((0 ≤ i ∧ i ≤ 31) ∧ (0 ≤ a ∧ a ≤ 3) ∧ (0 ≤ b ∧ b ≤ 3) ∧ (0 ≤ c ∧ c ≤ 99) ∧ 25 ≤ cF g 0 1) → P (some (oI 0), g1)) {lv : List (Nat × pv)} (l0 : px_lg lv 0 = some (pvR 0)) (l1 : px_lg lv 1 = some (oI i)) (l2 : px_lg lv 2 = some (oI a)) (l3 : px_lg lv 3 = some (oI b)) (l4 : px_lg lv 4 = some (oI c)) : t_X d 147 0 lv [] g P := by
  have hJ : J_ kk_2.2.2.2.1 g g := J_rf hG
  have w_0_1 := Wsl_b.1
  have hb := cb_0_1 hG
  by_cases a0 : i < 0
  · refine mid_L (k := kcsl_1) ecsl_1 hG hx (xs := [cv (pvR 0), cv (oI i), cv (oI a), cv (oI b), cv (oI c)]) (ys := []) ⟨by show 1 ≤ _; omega, ⟨⟨pvR 0, l0, rfl, rfl, ok_0⟩, ⟨oI i, l1, rfl, rfl, ok_oI (by omega) (by decide) (by decide)⟩, ⟨oI a, l2, rfl, rfl, ok_full32 _⟩, ⟨oI b, l3, rfl, rfl, ok_full32 _⟩, ⟨oI c, l4, rfl, rfl, ok_full32 _⟩, trivial⟩, trivial, fun c hc => absurd hc List.not_mem_nil⟩ (by omega) (fun o G1 X1 M1 P1 => ?_)
    obtain ⟨o1, o2⟩ := o
    obtain ⟨rfl, -⟩ := po_c P1
    exact hR _ G1 X1 (f_M_0 M1) (fun u v => cF_M0 M1 u v) (fun z => by omega)
  · skip
    by_cases a1 : 31 < i
    · refine mid_L (k := kcsl_2) ecsl_2 hG hx (xs := [cv (pvR 0), cv (oI i), cv (oI a), cv (oI b), cv (oI c)]) (ys := []) ⟨by show 1 ≤ _; omega, ⟨⟨pvR 0, l0, rfl, rfl, ok_0⟩, ⟨oI i, l1, rfl, rfl, ok_oI (by omega) (by decide) (by decide)⟩, ⟨oI a, l2, rfl, rfl, ok_full32 _⟩, ⟨oI b, l3, rfl, rfl, ok_full32 _⟩, ⟨oI c, l4, rfl, rfl, ok_full32 _⟩, trivial⟩, trivial, fun c hc => absurd hc List.not_mem_nil⟩ (by omega) (fun o G1 X1 M1 P1 => ?_)
      obtain ⟨o1, o2⟩ := o
      obtain ⟨rfl, -⟩ := po_c P1
      exact hR _ G1 X1 (f_M_0 M1) (fun u v => cF_M0 M1 u v) (fun z => by omega)
    · skip
      by_cases a2 : a < 0
      · refine mid_L (k := kcsl_3) ecsl_3 hG hx (xs := [cv (pvR 0), cv (oI i), cv (oI a), cv (oI b), cv (oI c)]) (ys := []) ⟨by show 1 ≤ _; omega, ⟨⟨pvR 0, l0, rfl, rfl, ok_0⟩, ⟨oI i, l1, rfl, rfl, ok_full32 _⟩, ⟨oI a, l2, rfl, rfl, ok_oI (by omega) (by decide) (by decide)⟩, ⟨oI b, l3, rfl, rfl, ok_full32 _⟩, ⟨oI c, l4, rfl, rfl, ok_full32 _⟩, trivial⟩, trivial, fun c hc => absurd hc List.not_mem_nil⟩ (by omega) (fun o G1 X1 M1 P1 => ?_)
        obtain ⟨o1, o2⟩ := o
        obtain ⟨rfl, -⟩ := po_c P1
        exact hR _ G1 X1 (f_M_0 M1) (fun u v => cF_M0 M1 u v) (fun z => by omega)
      · skip
        by_cases a3 : 3 < a
        · refine mid_L (k := kcsl_4) ecsl_4 hG hx (xs := [cv (pvR 0), cv (oI i), cv (oI a), cv (oI b), cv (oI c)]) (ys := []) ⟨by show 1 ≤ _; omega, ⟨⟨pvR 0, l0, rfl, rfl, ok_0⟩, ⟨oI i, l1, rfl, rfl, ok_full32 _⟩, ⟨oI a, l2, rfl, rfl, ok_oI (by omega) (by decide) (by decide)⟩, ⟨oI b, l3, rfl, rfl, ok_full32 _⟩, ⟨oI c, l4, rfl, rfl, ok_full32 _⟩, trivial⟩, trivial, fun c hc => absurd hc List.not_mem_nil⟩ (by omega) (fun o G1 X1 M1 P1 => ?_)
          obtain ⟨o1, o2⟩ := o
          obtain ⟨rfl, -⟩ := po_c P1
          exact hR _ G1 X1 (f_M_0 M1) (fun u v => cF_M0 M1 u v) (fun z => by omega)
        · skip
          by_cases a4 : b < 0
          · refine mid_L (k := kcsl_5) ecsl_5 hG hx (xs := [cv (pvR 0), cv (oI i), cv (oI a), cv (oI b), cv (oI c)]) (ys := []) ⟨by show 1 ≤ _; omega, ⟨⟨pvR 0, l0, rfl, rfl, ok_0⟩, ⟨oI i, l1, rfl, rfl, ok_full32 _⟩, ⟨oI a, l2, rfl, rfl, ok_full32 _⟩, ⟨oI b, l3, rfl, rfl, ok_oI (by omega) (by decide) (by decide)⟩, ⟨oI c, l4, rfl, rfl, ok_full32 _⟩, trivial⟩, trivial, fun c hc => absurd hc List.not_mem_nil⟩ (by omega) (fun o G1 X1 M1 P1 => ?_)
            obtain ⟨o1, o2⟩ := o
            obtain ⟨rfl, -⟩ := po_c P1
            exact hR _ G1 X1 (f_M_0 M1) (fun u v => cF_M0 M1 u v) (fun z => by omega)
          · skip
            by_cases a5 : 3 < b
            · refine mid_L (k := kcsl_6) ecsl_6 hG hx (xs := [cv (pvR 0), cv (oI i), cv (oI a), cv (oI b), cv (oI c)]) (ys := []) ⟨by show 1 ≤ _; omega, ⟨⟨pvR 0, l0, rfl, rfl, ok_0⟩, ⟨oI i, l1, rfl, rfl, ok_full32 _⟩, ⟨oI a, l2, rfl, rfl, ok_full32 _⟩, ⟨oI b, l3, rfl, rfl, ok_oI (by omega) (by decide) (by decide)⟩, ⟨oI c, l4, rfl, rfl, ok_full32 _⟩, trivial⟩, trivial, fun c hc => absurd hc List.not_mem_nil⟩ (by omega) (fun o G1 X1 M1 P1 => ?_)
              obtain ⟨o1, o2⟩ := o
              obtain ⟨rfl, -⟩ := po_c P1
              exact hR _ G1 X1 (f_M_0 M1) (fun u v => cF_M0 M1 u v) (fun z => by omega)
            · skip
              by_cases a6 : c < 0
              · refine mid_L (k := kcsl_7) ecsl_7 hG hx (xs := [cv (pvR 0), cv (oI i), cv (oI a), cv (oI b), cv (oI c)]) (ys := []) ⟨by show 1 ≤ _; omega, ⟨⟨pvR 0, l0, rfl, rfl, ok_0⟩, ⟨oI i, l1, rfl, rfl, ok_full32 _⟩, ⟨oI a, l2, rfl, rfl, ok_full32 _⟩, ⟨oI b, l3, rfl, rfl, ok_full32 _⟩, ⟨oI c, l4, rfl, rfl, ok_oI (by omega) (by decide) (by decide)⟩, trivial⟩, trivial, fun c hc => absurd hc List.not_mem_nil⟩ (by omega) (fun o G1 X1 M1 P1 => ?_)
                obtain ⟨o1, o2⟩ := o
                obtain ⟨rfl, -⟩ := po_c P1
                exact hR _ G1 X1 (f_M_0 M1) (fun u v => cF_M0 M1 u v) (fun z => by omega)
              · skip
                by_cases a7 : 99 < c
                · refine mid_L (k := kcsl_8) ecsl_8 hG hx (xs := [cv (pvR 0), cv (oI i), cv (oI a), cv (oI b), cv (oI c)]) (ys := []) ⟨by show 1 ≤ _; omega, ⟨⟨pvR 0, l0, rfl, rfl, ok_0⟩, ⟨oI i, l1, rfl, rfl, ok_full32 _⟩, ⟨oI a, l2, rfl, rfl, ok_full32 _⟩, ⟨oI b, l3, rfl, rfl, ok_full32 _⟩, ⟨oI c, l4, rfl, rfl, ok_oI (by omega) (by decide) (by decide)⟩, trivial⟩, trivial, fun c hc => absurd hc List.not_mem_nil⟩ (by omega) (fun o G1 X1 M1 P1 => ?_)
                  obtain ⟨o1, o2⟩ := o
                  obtain ⟨rfl, -⟩ := po_c P1
                  exact hR _ G1 X1 (f_M_0 M1) (fun u v => cF_M0 M1 u v) (fun z => by omega)
                · skip
                  by_cases a8 : cF g 0 1 < 25
                  · refine mid_L (k := kcsl_9) ecsl_9 hG hx (xs := [cv (pvR 0), cv (oI i), cv (oI a), cv (oI b), cv (oI c)]) (ys := [cF g 0 1]) ⟨by show 1 ≤ _; omega, ⟨⟨pvR 0, l0, rfl, rfl, ok_0⟩, ⟨oI i, l1, rfl, rfl, ok_oI (by omega) (by decide) (by decide)⟩, ⟨oI a, l2, rfl, rfl, ok_oI (by omega) (by decide) (by decide)⟩, ⟨oI b, l3, rfl, rfl, ok_oI (by omega) (by decide) (by decide)⟩, ⟨oI c, l4, rfl, rfl, ok_oI (by omega) (by decide) (by decide)⟩, trivial⟩, ⟨⟨.inl (g.1 0 1), hc_i er_0 (Nat.le_of_ble_eq_true rfl) rfl, rfl, rfl, ⟨hb.1, show cF g 0 1 ≤ 24 by omega, Or.inl rfl⟩⟩, trivial⟩, fun c hc => absurd hc List.not_mem_nil⟩ (by omega) (fun o G1 X1 M1 P1 => ?_)
                    obtain ⟨o1, o2⟩ := o
                    obtain ⟨rfl, -⟩ := po_c P1
                    exact hR _ G1 X1 (f_M_0 M1) (fun u v => cF_M0 M1 u v) (fun z => by omega)
                  · skip
                    obtain ⟨m, rfl⟩ : ∃ m : Nat, i = m := ⟨i.toNat, by omega⟩
                    have hm : m < 32 := by omega
                    refine t_0 qysl_0 rfl (ld_i l1) ?_
                    refine t_0 qysl_1 rfl rfl ?_
                    refine t_0 qysl_2 rfl (pq_b (by decide)) ?_
                    refine t_3 qysl_4 rfl (ar := ([oI ((m : Int)), oI (0), oI (31)], [])) (pcal_s ⟨Or.inl rfl, rfl, Nat.le_of_ble_eq_true rfl⟩) ⟨by omega, Nat.le_of_ble_eq_true rfl, Nat.le_of_ble_eq_true rfl, rfl⟩ ?_
                    refine ii_run ⟨by omega, by omega⟩ ⟨by omega, by omega⟩ ⟨by omega, by omega⟩ rfl rfl rfl (fun t1 => ?_) (fun t1 => absurd t1 (by omega))
                    show t_X d 147 7 lv [oI (1)] g P
                    refine tz_eq qysl_7 (by decide) ⟨by omega, by omega⟩ (fun c2 => absurd c2 (by omega)) (fun c2 => ?_)
                    show t_X d 147 10 lv [] g P
                    refine t_0 qysl_10 rfl (ld_i l2) ?_
                    refine t_0 qysl_11 rfl rfl ?_
                    refine t_0 qysl_12 rfl rfl ?_
                    refine t_3 qysl_13 rfl (ar := ([oI (a), oI (0), oI (3)], [])) (pcal_s ⟨Or.inl rfl, rfl, Nat.le_of_ble_eq_true rfl⟩) ⟨by omega, Nat.le_of_ble_eq_true rfl, Nat.le_of_ble_eq_true rfl, rfl⟩ ?_
                    refine ii_run ⟨by omega, by omega⟩ ⟨by omega, by omega⟩ ⟨by omega, by omega⟩ rfl rfl rfl (fun t3 => ?_) (fun t3 => absurd t3 (by omega))
                    show t_X d 147 16 lv [oI (1)] g P
                    refine tz_eq qysl_16 (by decide) ⟨by omega, by omega⟩ (fun c4 => absurd c4 (by omega)) (fun c4 => ?_)
                    show t_X d 147 19 lv [] g P
                    refine t_0 qysl_19 rfl (ld_i l3) ?_
                    refine t_0 qysl_20 rfl rfl ?_
                    refine t_0 qysl_21 rfl rfl ?_
                    refine t_3 qysl_22 rfl (ar := ([oI (b), oI (0), oI (3)], [])) (pcal_s ⟨Or.inl rfl, rfl, Nat.le_of_ble_eq_true rfl⟩) ⟨by omega, Nat.le_of_ble_eq_true rfl, Nat.le_of_ble_eq_true rfl, rfl⟩ ?_
                    refine ii_run ⟨by omega, by omega⟩ ⟨by omega, by omega⟩ ⟨by omega, by omega⟩ rfl rfl rfl (fun t5 => ?_) (fun t5 => absurd t5 (by omega))
                    show t_X d 147 25 lv [oI (1)] g P
                    refine tz_eq qysl_25 (by decide) ⟨by omega, by omega⟩ (fun c6 => absurd c6 (by omega)) (fun c6 => ?_)
                    show t_X d 147 28 lv [] g P
                    refine t_0 qysl_28 rfl (ld_i l4) ?_
                    refine t_0 qysl_30 rfl rfl ?_
                    refine t_0 qysl_31 rfl (pq_b (by decide)) ?_
                    refine t_3 qysl_33 rfl (ar := ([oI (c), oI (0), oI (99)], [])) (pcal_s ⟨Or.inl rfl, rfl, Nat.le_of_ble_eq_true rfl⟩) ⟨by omega, Nat.le_of_ble_eq_true rfl, Nat.le_of_ble_eq_true rfl, rfl⟩ ?_
                    refine ii_run ⟨by omega, by omega⟩ ⟨by omega, by omega⟩ ⟨by omega, by omega⟩ rfl rfl rfl (fun t7 => ?_) (fun t7 => absurd t7 (by omega))
                    show t_X d 147 36 lv [oI (1)] g P
                    refine tz_ne qysl_36 (by decide) ⟨by omega, by omega⟩ (fun c8 => ?_) (fun c8 => absurd c8 (by omega))
                    show t_X d 147 41 lv [] g P
                    refine t_0 qysl_41 rfl (ld_a l0) ?_
                    have r9 := cb_0_1 hJ.1
                    refine t_0 qysl_42 rfl (pq_cf (y := 1) er_0 rfl) ?_
                    refine t_0 qysl_45 rfl (pq_b (by decide)) ?_
                    refine tb_ge qysl_47 (by decide) ⟨by omega, by omega⟩ ⟨by omega, by omega⟩ (fun c10 => ?_) (fun c10 => absurd c10 (by omega))
                    show t_X d 147 52 lv [] g P
                    refine t_0 qysl_52 rfl (ld_a l0) ?_
                    refine t_0 qysl_53 rfl rfl ?_
                    refine tw_c qysl_54 er_0 rfl hJ w_0_1 gx_0_1 (by decide) ⟨by omega, by omega⟩ (fun g11 hJ11 e11 => ?_)
                    have v11 : cF g11 0 1 = 0 := by rw [e11]; exact pc_at (by omega) (by omega)
                    show t_X d 147 57 lv [] g11 P
                    refine t_0 qysl_57 rfl (ld_a l0) ?_
                    refine t_3 qysl_58 rfl (ar := ([pvR 0], [])) (pcal_v0 rfl rfl er_0) ⟨by omega, Nat.le_of_ble_eq_true rfl, Nat.le_of_ble_eq_true rfl, rfl⟩ ?_
                    refine tp_run (by omega) hJ11.1 (fun t12 => ?_) (fun t12 => ?_) rfl
                    · show t_X d 147 61 lv [oI (1)] g11 P
                      refine tz_ne qysl_61 (by decide) ⟨by omega, by omega⟩ (fun c13 => ?_) (fun c13 => absurd c13 (by omega))
                      show t_X d 147 66 lv [] g11 P
                      refine t_0 qysl_66 rfl (ld_a l0) ?_
                      refine t_0 qysl_67 rfl (cr_0_2 hJ11.1) ?_
                      refine t_0 qysl_70 rfl (cr_2_0 hJ11.1) ?_
                      refine t_0 qysl_73 rfl (ld_i l1) ?_
                      refine t_0 qysl_74 rfl (pq_a3 (rS_2 e11 hS) hm (by omega)) ?_
                      refine t_0 qysl_75 rfl (ld_a l0) ?_
                      refine t_0 qysl_76 rfl (cr_0_0 hJ11.1) ?_
                      refine t_0 qysl_79 rfl (ld_i l2) ?_
                      refine t_0 qysl_80 rfl (ld_i l3) ?_
                      refine t_0 qysl_81 rfl (ld_i l4) ?_
                      refine t_3 qysl_83 rfl (ar := ([pvR (4 + 2 * m), pvR 1, oI (a), oI (b), oI (c)], [])) (pcal_v4 rfl rfl (el_s4 hm)) ⟨by omega, Nat.le_of_ble_eq_true rfl, Nat.le_of_ble_eq_true rfl, rfl⟩ ?_
                      refine mid_L (k := kT m) (eTl_at hm) hJ11.1 (xL_K _ _ _ hJ11.2 Wsl_b.2.1 hx) (xs := [cv (pvR (4 + 2 * m)), cv (pvR 1), cv (oI a), cv (oI b), cv (oI c)]) (ys := [cF g11 0 1]) ⟨by show 3 ≤ _; omega, ⟨⟨pvR (4 + 2 * m), rfl, rfl, rfl, ok_s4 hm⟩, ⟨pvR 1, rfl, rfl, rfl, ok_t1⟩, ⟨oI a, rfl, rfl, rfl, ok_oI (by omega) (by decide) (by decide)⟩, ⟨oI b, rfl, rfl, rfl, ok_oI (by omega) (by decide) (by decide)⟩, ⟨oI c, rfl, rfl, rfl, ok_oI (by omega) (by decide) (by decide)⟩, trivial⟩, ⟨⟨.inl (g11.1 0 1), hc_i er_0 (Nat.le_of_ble_eq_true rfl) rfl, rfl, rfl, ⟨by show 0 ≤ cF g11 0 1; omega, by show cF g11 0 1 ≤ 0; omega, Or.inl rfl⟩⟩, trivial⟩, fun c hc => absurd hc List.not_mem_nil⟩ (by omega) (fun o G1 X1 M1 P1 => ?_)
                      obtain ⟨o1, o2⟩ := o
                      obtain ⟨rfl, ys, hF⟩ := po_n P1
                      have hJ9 := J_up (WT_k m hm).1 hJ11 ⟨G1, M1⟩
                      show t_X d 147 86 lv [] o2 P
                      refine t_0 qysl_86 rfl rfl ?_
                      refine t_5 qysl_87 rfl rfl ?_
                      refine hA m hm rfl (by omega) (pic_2 e11 t12) o2 G1 X1 hJ9.2 ?_ ?_ (fun j hj hn => ?_)
                      · rw [cF_M M1 (WT_k m hm).2]; omega
                      · exact fa_z (el_s4 hm) (Nat.le_of_ble_eq_true rfl) rfl hF
                      · rw [cF_M M1 (WT_n m hm j hj hn), e11]; exact pc_ne (fun z => by omega)
                    · show t_X d 147 61 lv [oI (0)] g11 P
                      refine tz_ne qysl_61 (by decide) ⟨by omega, by omega⟩ (fun c14 => absurd c14 (by omega)) (fun c14 => ?_)
                      show t_X d 147 64 lv [] g11 P
                      refine t_0 qysl_64 rfl rfl ?_
                      refine t_5 qysl_65 rfl rfl ?_
                      refine hB (by omega) (fun z => t12 (pic_1 e11 z)) g11 hJ11.1 (xL_K _ _ _ hJ11.2 Wsl_b.2.1 hx) hJ11.2 (by omega) (fun u v h => ?_)
                      rw [e11]; exact pc_ne h
end
section
/-! the tie: gone, keep, undo of the class (printed by wip/e2/t5.py) -/
theorem qgn_0 : xe_look (xc 120) 0 = some (.aload_n 0, 1, 0, 0, 0) := by decide +kernel
theorem qgn_1 : xe_look (xc 120) 1 = some (.getfield 16, 3, 11, 2, 983) := by decide +kernel
theorem qgn_4 : xe_look (xc 120) 4 = some (.iload_n 1, 1, 0, 0, 0) := by decide +kernel
theorem qgn_5 : xe_look (xc 120) 5 = some (.invokevirtual 107, 3, 0, 84, 984) := by decide +kernel
theorem qgn_8 : xe_look (xc 120) 8 = some (.astore_n 2, 1, 0, 0, 0) := by decide +kernel
theorem qgn_9 : xe_look (xc 120) 9 = some (.aload_n 2, 1, 0, 0, 0) := by decide +kernel
theorem qgn_10 : xe_look (xc 120) 10 = some (.ifnonnull 5, 3, 0, 0, 0) := by decide +kernel
theorem qgn_13 : xe_look (xc 120) 13 = some (.iconst 0, 1, 0, 0, 0) := by decide +kernel
theorem qgn_14 : xe_look (xc 120) 14 = some (.ireturn, 1, 0, 0, 0) := by decide +kernel
theorem qkp_0 : xe_look (xc 126) 0 = some (.aload_n 0, 1, 0, 0, 0) := by decide +kernel
theorem qkp_1 : xe_look (xc 126) 1 = some (.getfield 20, 3, 11, 3, 1029) := by decide +kernel
theorem qkp_4 : xe_look (xc 126) 4 = some (.aload_n 0, 1, 0, 0, 0) := by decide +kernel
theorem qkp_5 : xe_look (xc 126) 5 = some (.getfield 16, 3, 11, 2, 983) := by decide +kernel
theorem qkp_8 : xe_look (xc 126) 8 = some (.invokevirtual 398, 3, 0, 79, 1050) := by decide +kernel
theorem qkp_11 : xe_look (xc 126) 11 = some (.aload_n 0, 1, 0, 0, 0) := by decide +kernel
theorem qkp_12 : xe_look (xc 126) 12 = some (.iconst 1, 1, 0, 0, 0) := by decide +kernel
theorem qkp_13 : xe_look (xc 126) 13 = some (.putfield 401, 3, 11, 4, 1051) := by decide +kernel
theorem qkp_16 : xe_look (xc 126) 16 = some (.aload_n 0, 1, 0, 0, 0) := by decide +kernel
theorem qkp_17 : xe_look (xc 126) 17 = some (.getfield 16, 3, 11, 2, 983) := by decide +kernel
theorem qkp_20 : xe_look (xc 126) 20 = some (.invokevirtual 404, 3, 0, 83, 998) := by decide +kernel
theorem qkp_23 : xe_look (xc 126) 23 = some (.ireturn, 1, 0, 0, 0) := by decide +kernel
theorem qsk_0 : xe_look (xc 79) 0 = some (.iconst 0, 1, 0, 0, 0) := by decide +kernel
theorem qsk_1 : xe_look (xc 79) 1 = some (.istore_n 2, 1, 0, 0, 0) := by decide +kernel
theorem qsk_2 : xe_look (xc 79) 2 = some (.iload_n 2, 1, 0, 0, 0) := by decide +kernel
theorem qsk_3 : xe_look (xc 79) 3 = some (.bipush 32, 2, 0, 0, 0) := by decide +kernel
theorem qsk_5 : xe_look (xc 79) 5 = some (.if_icmp .ge 24, 3, 0, 0, 0) := by decide +kernel
theorem qsk_8 : xe_look (xc 79) 8 = some (.aload_n 0, 1, 0, 0, 0) := by decide +kernel
theorem qsk_9 : xe_look (xc 79) 9 = some (.getfield 11, 3, 8, 0, 924) := by decide +kernel
theorem qsk_12 : xe_look (xc 79) 12 = some (.iload_n 2, 1, 0, 0, 0) := by decide +kernel
theorem qsk_13 : xe_look (xc 79) 13 = some (.aaload, 1, 0, 0, 0) := by decide +kernel
theorem qsk_14 : xe_look (xc 79) 14 = some (.aload_n 1, 1, 0, 0, 0) := by decide +kernel
theorem qsk_15 : xe_look (xc 79) 15 = some (.getfield 11, 3, 8, 0, 924) := by decide +kernel
theorem qsk_18 : xe_look (xc 79) 18 = some (.iload_n 2, 1, 0, 0, 0) := by decide +kernel
theorem qsk_19 : xe_look (xc 79) 19 = some (.aaload, 1, 0, 0, 0) := by decide +kernel
theorem qsk_20 : xe_look (xc 79) 20 = some (.invokevirtual 65, 3, 0, 73, 925) := by decide +kernel
theorem qsk_23 : xe_look (xc 79) 23 = some (.iinc 2 1, 3, 0, 0, 0) := by decide +kernel
theorem qsk_26 : xe_look (xc 79) 26 = some (.goto (-24), 3, 0, 0, 0) := by decide +kernel
theorem qsu_0 : xe_look (xc 79) 0 = some (.iconst 0, 1, 0, 0, 0) := by decide +kernel
theorem qsu_1 : xe_look (xc 79) 1 = some (.istore_n 2, 1, 0, 0, 0) := by decide +kernel
theorem qsu_2 : xe_look (xc 79) 2 = some (.iload_n 2, 1, 0, 0, 0) := by decide +kernel
theorem qsu_3 : xe_look (xc 79) 3 = some (.bipush 32, 2, 0, 0, 0) := by decide +kernel
theorem qsu_5 : xe_look (xc 79) 5 = some (.if_icmp .ge 24, 3, 0, 0, 0) := by decide +kernel
theorem qsu_8 : xe_look (xc 79) 8 = some (.aload_n 0, 1, 0, 0, 0) := by decide +kernel
theorem qsu_9 : xe_look (xc 79) 9 = some (.getfield 11, 3, 8, 0, 924) := by decide +kernel
theorem qsu_12 : xe_look (xc 79) 12 = some (.iload_n 2, 1, 0, 0, 0) := by decide +kernel
theorem qsu_13 : xe_look (xc 79) 13 = some (.aaload, 1, 0, 0, 0) := by decide +kernel
theorem qsu_14 : xe_look (xc 79) 14 = some (.aload_n 1, 1, 0, 0, 0) := by decide +kernel
theorem qsu_15 : xe_look (xc 79) 15 = some (.getfield 11, 3, 8, 0, 924) := by decide +kernel
theorem qsu_18 : xe_look (xc 79) 18 = some (.iload_n 2, 1, 0, 0, 0) := by decide +kernel
theorem qsu_19 : xe_look (xc 79) 19 = some (.aaload, 1, 0, 0, 0) := by decide +kernel
theorem qsu_20 : xe_look (xc 79) 20 = some (.invokevirtual 65, 3, 0, 73, 925) := by decide +kernel
theorem qsu_23 : xe_look (xc 79) 23 = some (.iinc 2 1, 3, 0, 0, 0) := by decide +kernel
theorem qsu_26 : xe_look (xc 79) 26 = some (.goto (-24), 3, 0, 0, 0) := by decide +kernel
theorem qun_0 : xe_look (xc 160) 0 = some (.aload_n 0, 1, 0, 0, 0) := by decide +kernel
theorem qun_1 : xe_look (xc 160) 1 = some (.getfield 401, 3, 11, 4, 1051) := by decide +kernel
theorem qun_4 : xe_look (xc 160) 4 = some (.ifCond .eq 14, 3, 0, 0, 0) := by decide +kernel
theorem qun_7 : xe_look (xc 160) 7 = some (.aload_n 0, 1, 0, 0, 0) := by decide +kernel
theorem qun_8 : xe_look (xc 160) 8 = some (.getfield 16, 3, 11, 2, 983) := by decide +kernel
theorem qun_11 : xe_look (xc 160) 11 = some (.aload_n 0, 1, 0, 0, 0) := by decide +kernel
theorem qun_12 : xe_look (xc 160) 12 = some (.getfield 20, 3, 11, 3, 1029) := by decide +kernel
theorem qun_15 : xe_look (xc 160) 15 = some (.invokevirtual 398, 3, 0, 79, 1050) := by decide +kernel
theorem qun_18 : xe_look (xc 160) 18 = some (.aload_n 0, 1, 0, 0, 0) := by decide +kernel
theorem qun_19 : xe_look (xc 160) 19 = some (.getfield 401, 3, 11, 4, 1051) := by decide +kernel
theorem qun_22 : xe_look (xc 160) 22 = some (.ireturn, 1, 0, 0, 0) := by decide +kernel
theorem er_76 : eL[76]? = some (0, 8) := by decide +kernel
theorem cg_0_3 : (eG (cn 0 + 3)).2.2 = [77] := by decide +kernel
theorem cr_0_3 {d i : Nat} {lv : List (Nat × pv)} {r : List pv} {g : pH} (hG : g_I eG g) : px_push eL d none (.getfield i) 11 3 lv (pvR 0 :: r) g = some (pvR 76 :: r) := pget er_0 (gI_o (r := 76) hG er_0 (Nat.le_of_ble_eq_true rfl) (y := 3) rfl cg_0_3)
theorem cg_76_0 : (eG (cn 76 + 0)).2.2 = [78] := by decide +kernel
theorem cr_76_0 {d i : Nat} {lv : List (Nat × pv)} {r : List pv} {g : pH} (hG : g_I eG g) : px_push eL d none (.getfield i) 8 0 lv (pvR 76 :: r) g = some (pvR 77 :: r) := pget er_76 (gI_r (r := 77) hG er_76 (Nat.le_of_ble_eq_true rfl) (y := 0) rfl cg_76_0)
theorem gx_0_4 : eG (cn 0 + 4) = (0, 1, []) := by decide +kernel
theorem cb_0_4 {g : pH} (hG : g_I eG g) : 0 ≤ cF g 0 4 ∧ cF g 0 4 ≤ 1 := cb_z hG er_0 (Nat.le_of_ble_eq_true rfl) rfl gx_0_4
def kG (m : Nat) : eK := (120, (2, [(0, 2, (0, 100000, [1])), (1, 0, (0, 31, [])), (2, 2, (0, 100000, [5 + 2 * m]))], [], []), (0, []), 2 ^ (cn (4 + 2 * m) + 2) + 2 ^ (cn (4 + 2 * m) + 9) + 284433232230222646813639320722911712155419367858672443134251743011898804037995489101146734527450484782072845805027328, [(some (0, (1, 1, [])), [(4 + 2 * m, 2, 0, (0, 0, []))], [])])
theorem eGn : (List.range 32).all (fun m => ex_mid eG eKT eDX 4000 (kG m) [] 15) = true := by decide +kernel
theorem eGn_at {m : Nat} (h : m < 32) : ex_mid eG eKT eDX 4000 (kG m) [] 15 = true := List.all_eq_true.mp eGn m (List.mem_range.mpr h)
theorem WG_k : ∀ m, m < 32 → (kG m).2.2.2.1 &&& kk_8.2.2.2.1 = (kG m).2.2.2.1 := by decide +kernel
theorem WG_n : ∀ m, m < 32 → ∀ j, j < 32 → j ≠ m → (kG m).2.2.2.1.testBit (cn (4 + 2 * j) + 2) = false := by decide +kernel
set_option maxHeartbeats 2000000 in
theorem cgo_run {d : Nat} (hd : 4 ≤ d) (hd2 : d ≤ 1000000) {g : pH} (hG : g_I eG g) (hx : xL g) (hS : rS g) {i : Int} (hi : -2147483648 ≤ i ∧ i ≤ 2147483647) {P : Option pv × pH → Prop} (hA : ∀ m : Nat, m < 32 → i = m → cF g (4 + 2 * m) 2 = 1 → ∀ g1 : pH, g_I eG g1 → xL g1 → f_M kk_8.2.2.2.1 g g1 → cF g1 (4 + 2 * m) 2 = 0 → (∀ j, j < 32 → j ≠ m → cF g1 (4 + 2 * j) 2 = cF g (4 + 2 * j) 2) → P (some (oI 1), g1)) (hR : ¬ toC g i → P (some (oI 0), g)) {lv : List (Nat × pv)} (l0 : px_lg lv 0 = some (pvR 0)) (l1 : px_lg lv 1 = some (oI i)) : t_X d 120 0 lv [] g P := by
  have hJ : J_ 0 g g := J_rf hG
  refine t_0 qgn_0 rfl (ld_a l0) ?_
  refine t_0 qgn_1 rfl (cr_0_2 hJ.1) ?_
  refine t_0 qgn_4 rfl (ld_i l1) ?_
  refine t_3 qgn_5 rfl (ar := ([pvR 2, oI (i)], [])) (pcal_v1 rfl rfl er_2) ⟨by omega, Nat.le_of_ble_eq_true rfl, Nat.le_of_ble_eq_true rfl, rfl⟩ ?_
  refine td_run (by omega) hJ.1 hS (by omega) (fun m hm e1 c0 => ?_) (fun c0 => ?_) rfl rfl
  · show t_X d 120 8 lv [pvR (4 + 2 * m)] g P
    refine t_2 qgn_8 rfl (w := (px_s1 lv 2 (pvR (4 + 2 * m)), [])) rfl ?_
    replace l0 : px_lg (px_s1 lv 2 (pvR (4 + 2 * m))) 0 = some (pvR 0) := s1_ne (by decide) (fun _ => rfl) l0
    replace l1 : px_lg (px_s1 lv 2 (pvR (4 + 2 * m))) 1 = some (oI (i)) := s1_ne (by decide) (fun _ => rfl) l1
    have l2 : px_lg (px_s1 lv 2 (pvR (4 + 2 * m))) 2 = some (pvR (4 + 2 * m)) := s1_eq
    generalize px_s1 lv 2 (pvR (4 + 2 * m)) = lv1 at l0 l1 l2 ⊢
    show t_X d 120 9 lv1 [] g P
    refine t_0 qgn_9 rfl (ld_a l2) ?_
    refine t_1 qgn_10 rfl (pn_ot (pc := 10) (by decide)) ?_
    show t_X d 120 15 lv1 [] g P
    refine mid_L (k := kG m) (eGn_at hm) hG hx (xs := [cv (pvR 0), cv (oI i), cv (pvR (4 + 2 * m))]) (ys := []) ⟨by show 2 ≤ _; omega, ⟨⟨pvR 0, l0, rfl, rfl, ok_0⟩, ⟨oI i, l1, rfl, rfl, ok_oI (by omega) (by decide) (by decide)⟩, ⟨pvR (4 + 2 * m), l2, rfl, rfl, ok_s4 hm⟩, trivial⟩, trivial, fun c hc => absurd hc List.not_mem_nil⟩ (by omega) (fun o G1 X1 M1 P1 => ?_)
    obtain ⟨o1, o2⟩ := o
    obtain ⟨rfl, ys, hF⟩ := po_c P1
    exact hA m hm e1 c0 _ G1 X1 (f_M_w (WG_k m hm) M1) (fa_z (el_s4 hm) (Nat.le_of_ble_eq_true rfl) rfl hF) (fun j hj hn => cF_M M1 (WG_n m hm j hj hn))
  · show t_X d 120 8 lv [.inr (.inr none)] g P
    refine t_2 qgn_8 rfl (w := (px_s1 lv 2 (.inr (.inr none)), [])) rfl ?_
    replace l0 : px_lg (px_s1 lv 2 (.inr (.inr none))) 0 = some (pvR 0) := s1_ne (by decide) (fun _ => rfl) l0
    replace l1 : px_lg (px_s1 lv 2 (.inr (.inr none))) 1 = some (oI (i)) := s1_ne (by decide) (fun _ => rfl) l1
    have l2 : px_lg (px_s1 lv 2 (.inr (.inr none))) 2 = some (.inr (.inr none)) := s1_eq
    generalize px_s1 lv 2 (.inr (.inr none)) = lv2 at l0 l1 l2 ⊢
    show t_X d 120 9 lv2 [] g P
    refine t_0 qgn_9 rfl (ld_a l2) ?_
    refine t_1 qgn_10 rfl (pn_of (pc := 10) ) ?_
    show t_X d 120 13 lv2 [] g P
    refine t_0 qgn_13 rfl rfl ?_
    refine t_5 qgn_14 rfl rfl ?_
    exact hR c0
/-- copying slide m from row S to row D, told as b says -/
def W73 (D m : Nat) : Nat := 2 ^ (cn (D + 2 * m) + 2) + 2 ^ (cn (D + 2 * m) + 3) + 2 ^ (cn (D + 2 * m) + 4) + 2 ^ (cn (D + 2 * m) + 5) + 2 ^ (cn (D + 2 * m) + 6) + 2 ^ (cn (D + 2 * m) + 7) + 2 ^ (cn (D + 2 * m) + 8) + 2 ^ (cn (D + 2 * m) + 9) + 2 ^ cn (D + 1 + 2 * m)
def k73 (S D m : Nat) (b : Int) : eK := (73, (1, [(0, 2, (0, 100000, [D + 1 + 2 * m])), (1, 2, (0, 100000, [S + 1 + 2 * m]))], [(S + 2 * m, 2, 0, (b, b, []))], []), (0, []), W73 D m, [(none, [(D + 2 * m, 2, 0, (b, b, []))], [])])
theorem e73 : (List.range 32).all (fun m => ex_mid eG eKT eDX 4000 (k73 4 78 m 0) [] 0 && ex_mid eG eKT eDX 4000 (k73 4 78 m 1) [] 0 && ex_mid eG eKT eDX 4000 (k73 78 4 m 0) [] 0 && ex_mid eG eKT eDX 4000 (k73 78 4 m 1) [] 0) = true := by decide +kernel
theorem e73_at {m : Nat} (h : m < 32) {b : Int} (hb : b = 0 ∨ b = 1) : ex_mid eG eKT eDX 4000 (k73 4 78 m b) [] 0 = true ∧ ex_mid eG eKT eDX 4000 (k73 78 4 m b) [] 0 = true := by
  have h1 := List.all_eq_true.mp e73 m (List.mem_range.mpr h)
  rw [Bool.and_eq_true, Bool.and_eq_true, Bool.and_eq_true] at h1
  obtain ⟨⟨⟨h2, h3⟩, h4⟩, h5⟩ := h1
  rcases hb with rfl | rfl
  · exact ⟨h2, h4⟩
  · exact ⟨h3, h5⟩
theorem W73_k : ∀ m, m < 32 → W73 78 m &&& kk_57.2.2.2.1 = W73 78 m ∧ W73 4 m &&& kk_59.2.2.2.1 = W73 4 m := by decide +kernel
theorem W73_n : ∀ m, m < 32 → ∀ j, j < 32 → (W73 78 m).testBit (cn (4 + 2 * j) + 2) = false ∧ (W73 4 m).testBit (cn (78 + 2 * j) + 2) = false ∧ (j ≠ m → (W73 78 m).testBit (cn (78 + 2 * j) + 2) = false ∧ (W73 4 m).testBit (cn (4 + 2 * j) + 2) = false) := by decide +kernel
theorem Wku_b : kk_57.2.2.2.1.testBit (cn 0 + 4) = true ∧ kk_57.2.2.2.1 &&& eDX = 0 ∧ kk_57.2.2.2.1.testBit (cn 3) = false ∧ kk_57.2.2.2.1.testBit (cn 77) = false ∧ kk_59.2.2.2.1 &&& eDX = 0 ∧ kk_59.2.2.2.1.testBit (cn 3) = false ∧ kk_59.2.2.2.1.testBit (cn 77) = false := by decide +kernel
theorem ok_rl {k r : Nat} (h : k + 1 = r) (h2 : r ≤ 100000) : ok_v (cv (pvR k)) (0, 100000, [r]) := ⟨by show (0 : Int) ≤ (k : Int) + 1; omega, by show (k : Int) + 1 ≤ 100000; omega, Or.inr (List.mem_singleton.mpr (by show ((k : Int) + 1).toNat = _; omega))⟩
def ksk_t : eK := (79, (2, [(0, 2, (0, 100000, [77])), (1, 2, (0, 100000, [3]))], [], []), (0, []), 5478202469312658202298657606359559552399189555750060277728162399985812908015454331312396513281732175695577420133786623465117652050924133354484159628489221355176370334396422980290300982358420722977257286416758278682968665496748032, [(none, [], [])])
theorem esk_t : ex_mid eG eKT eDX 4000 ksk_t [] 29 = true := by decide +kernel
theorem Wsk_t : ksk_t.2.2.2.1 &&& kk_57.2.2.2.1 = ksk_t.2.2.2.1 ∧ ∀ j, j < 32 → ksk_t.2.2.2.1.testBit (cn (4 + 2 * j) + 2) = false ∧ ksk_t.2.2.2.1.testBit (cn (78 + 2 * j) + 2) = false := by decide +kernel
set_option maxHeartbeats 4000000 in
theorem sk_loop {d : Nat} (hd : 5 ≤ d) (hd2 : d ≤ 1000000) {h0 : pH} (hx : xL h0) (hS0 : rS h0) {P : Option pv × pH → Prop} (hP : ∀ g1 : pH, J_ kk_57.2.2.2.1 h0 g1 → xL g1 → (∀ j, j < 32 → cF g1 (78 + 2 * j) 2 = cF h0 (4 + 2 * j) 2) → (∀ j, j < 32 → cF g1 (4 + 2 * j) 2 = cF h0 (4 + 2 * j) 2) → P (none, g1)) : ∀ (n m : Nat) (lv : List (Nat × pv)) (g : pH), 32 - m ≤ n → m ≤ 32 → J_ kk_57.2.2.2.1 h0 g → (∀ j, j < m → cF g (78 + 2 * j) 2 = cF h0 (4 + 2 * j) 2) → (∀ j, j < 32 → cF g (4 + 2 * j) 2 = cF h0 (4 + 2 * j) 2) → px_lg lv 0 = some (pvR 76) → px_lg lv 1 = some (pvR 2) → px_lg lv 2 = some (oI (m : Int)) → t_X d 79 2 lv [] g P := by
  intro n
  induction n with
  | zero =>
    intro m lv g hn hm2 hJ hc hs l0 l1 l2
    refine t_0 qsk_2 rfl (ld_i l2) ?_
    refine t_0 qsk_3 rfl (pq_b (by decide)) ?_
    refine tb_ge qsk_5 (by decide) ⟨by omega, by omega⟩ ⟨by omega, by omega⟩ (fun c1 => ?_) (fun c1 => absurd c1 (by omega))
    show t_X d 79 29 lv [] g P
    refine mid_L (k := ksk_t) esk_t hJ.1 (xL_K _ _ _ hJ.2 Wku_b.2.1 hx) (xs := [cv (pvR 76), cv (pvR 2)]) (ys := []) ⟨by show 2 ≤ _; omega, ⟨⟨pvR 76, l0, rfl, rfl, ok_rl rfl (by decide)⟩, ⟨pvR 2, l1, rfl, rfl, ok_rl rfl (by decide)⟩, trivial⟩, trivial, fun c hc => absurd hc List.not_mem_nil⟩ (by omega) (fun o G1 X1 M1 P1 => ?_)
    obtain ⟨o1, o2⟩ := o
    obtain ⟨rfl, ys, hF⟩ := po_n P1
    exact hP o2 (J_up Wsk_t.1 hJ ⟨G1, M1⟩) X1 (fun j hj => by rw [cF_M M1 (Wsk_t.2 j hj).2]; exact hc j (by omega)) (fun j hj => by rw [cF_M M1 (Wsk_t.2 j hj).1]; exact hs j hj)
  | succ n ih =>
    intro m lv g hn hm2 hJ hc hs l0 l1 l2
    by_cases hm : m < 32
    · have hSg := rS_M hJ.2 ⟨Wku_b.2.2.1, Wku_b.2.2.2.1⟩ hS0
      have hb9 := cs4_2 hm hJ.1
      refine t_0 qsk_2 rfl (ld_i l2) ?_
      refine t_0 qsk_3 rfl (pq_b (by decide)) ?_
      refine tb_ge qsk_5 (by decide) ⟨by omega, by omega⟩ ⟨by omega, by omega⟩ (fun c1 => absurd c1 (by omega)) (fun c1 => ?_)
      show t_X d 79 8 lv [] g P
      refine t_0 qsk_8 rfl (ld_a l0) ?_
      refine t_0 qsk_9 rfl (cr_76_0 hJ.1) ?_
      refine t_0 qsk_12 rfl (ld_i l2) ?_
      refine t_0 qsk_13 rfl (pq_a77 hSg hm (by omega)) ?_
      refine t_0 qsk_14 rfl (ld_a l1) ?_
      refine t_0 qsk_15 rfl (cr_2_0 hJ.1) ?_
      refine t_0 qsk_18 rfl (ld_i l2) ?_
      refine t_0 qsk_19 rfl (pq_a3 hSg hm (by omega)) ?_
      refine t_3 qsk_20 rfl (ar := ([pvR (78 + 2 * m), pvR (4 + 2 * m)], [])) (pcal_v1 rfl rfl (el_s78 hm)) ⟨by omega, Nat.le_of_ble_eq_true rfl, Nat.le_of_ble_eq_true rfl, rfl⟩ ?_
      refine mid_L (k := k73 4 78 m (cF g (4 + 2 * m) 2)) (e73_at hm (by omega)).1 hJ.1 (xL_K _ _ _ hJ.2 Wku_b.2.1 hx) (xs := [cv (pvR (78 + 2 * m)), cv (pvR (4 + 2 * m))]) (ys := [cF g (4 + 2 * m) 2]) ⟨by show 1 ≤ _; omega, ⟨⟨pvR (78 + 2 * m), rfl, rfl, rfl, ok_rl (by omega) (by omega)⟩, ⟨pvR (4 + 2 * m), rfl, rfl, rfl, ok_rl (by omega) (by omega)⟩, trivial⟩, ⟨⟨.inl (g.1 (4 + 2 * m) 2), hc_z (el_s4 hm) (Nat.le_of_ble_eq_true rfl) rfl, rfl, rfl, ⟨Int.le_refl _, Int.le_refl _, Or.inl rfl⟩⟩, trivial⟩, fun c hc => absurd hc List.not_mem_nil⟩ (by omega) (fun o G1 X1 M1 P1 => ?_)
      obtain ⟨o1, o2⟩ := o
      obtain ⟨rfl, ys, hF⟩ := po_n P1
      have hJ9 : J_ kk_57.2.2.2.1 h0 o2 := J_up (W73_k m hm).1 hJ ⟨G1, M1⟩
      have hF9 : cF o2 (78 + 2 * m) 2 = cF g (4 + 2 * m) 2 := fa_z (el_s78 hm) (Nat.le_of_ble_eq_true rfl) rfl hF
      show t_X d 79 23 lv [] o2 P
      refine t_2 qsk_23 rfl (w := (px_s1 lv 2 (oI ((m : Int) + 1)), [])) (pq_inc l2 (by decide)) ?_
      replace l0 : px_lg (px_s1 lv 2 (oI ((m : Int) + 1))) 0 = some (pvR 76) := s1_ne (by decide) (fun _ => rfl) l0
      replace l1 : px_lg (px_s1 lv 2 (oI ((m : Int) + 1))) 1 = some (pvR 2) := s1_ne (by decide) (fun _ => rfl) l1
      have l2 : px_lg (px_s1 lv 2 (oI ((m : Int) + 1))) 2 = some (oI ((m : Int) + 1)) := s1_eq
      generalize px_s1 lv 2 (oI ((m : Int) + 1)) = lv2 at l0 l1 l2 ⊢
      show t_X d 79 26 lv2 [] o2 P
      refine t_1 qsk_26 rfl (pb_goto (pc := 26) (by decide)) ?_
      show t_X d 79 2 lv2 [] o2 P
      refine ih (m + 1) _ o2 (by omega) (by omega) hJ9 (fun j hj => ?_) (fun j hj => ?_) l0 l1 l2
      · rcases Nat.lt_or_ge j m with z | z
        · rw [cF_M M1 (((W73_n m hm j (by omega)).2.2 (by omega)).1)]; exact hc j z
        · rw [show j = m by omega, hF9]; exact hs m hm
      · rw [cF_M M1 (W73_n m hm j hj).1]; exact hs j hj
    · skip
      refine t_0 qsk_2 rfl (ld_i l2) ?_
      refine t_0 qsk_3 rfl (pq_b (by decide)) ?_
      refine tb_ge qsk_5 (by decide) ⟨by omega, by omega⟩ ⟨by omega, by omega⟩ (fun c1 => ?_) (fun c1 => absurd c1 (by omega))
      show t_X d 79 29 lv [] g P
      refine mid_L (k := ksk_t) esk_t hJ.1 (xL_K _ _ _ hJ.2 Wku_b.2.1 hx) (xs := [cv (pvR 76), cv (pvR 2)]) (ys := []) ⟨by show 2 ≤ _; omega, ⟨⟨pvR 76, l0, rfl, rfl, ok_rl rfl (by decide)⟩, ⟨pvR 2, l1, rfl, rfl, ok_rl rfl (by decide)⟩, trivial⟩, trivial, fun c hc => absurd hc List.not_mem_nil⟩ (by omega) (fun o G1 X1 M1 P1 => ?_)
      obtain ⟨o1, o2⟩ := o
      obtain ⟨rfl, ys, hF⟩ := po_n P1
      exact hP o2 (J_up Wsk_t.1 hJ ⟨G1, M1⟩) X1 (fun j hj => by rw [cF_M M1 (Wsk_t.2 j hj).2]; exact hc j (by omega)) (fun j hj => by rw [cF_M M1 (Wsk_t.2 j hj).1]; exact hs j hj)
theorem sk_run {d : Nat} (hd : 5 ≤ d) (hd2 : d ≤ 1000000) {h0 : pH} (hG : g_I eG h0) (hx : xL h0) (hS0 : rS h0) {P : Option pv × pH → Prop} (hP : ∀ g1 : pH, J_ kk_57.2.2.2.1 h0 g1 → xL g1 → (∀ j, j < 32 → cF g1 (78 + 2 * j) 2 = cF h0 (4 + 2 * j) 2) → (∀ j, j < 32 → cF g1 (4 + 2 * j) 2 = cF h0 (4 + 2 * j) 2) → P (none, g1)) {lv : List (Nat × pv)} (l0 : px_lg lv 0 = some (pvR 76)) (l1 : px_lg lv 1 = some (pvR 2)) : t_X d 79 0 lv [] h0 P := by
  have hJ : J_ kk_57.2.2.2.1 h0 h0 := J_rf hG
  refine t_0 qsk_0 rfl rfl ?_
  refine t_2 qsk_1 rfl (w := (px_s1 lv 2 (oI (0)), [])) rfl ?_
  replace l0 : px_lg (px_s1 lv 2 (oI (0))) 0 = some (pvR 76) := s1_ne (by decide) (fun _ => rfl) l0
  replace l1 : px_lg (px_s1 lv 2 (oI (0))) 1 = some (pvR 2) := s1_ne (by decide) (fun _ => rfl) l1
  have l2 : px_lg (px_s1 lv 2 (oI (0))) 2 = some (oI (0)) := s1_eq
  generalize px_s1 lv 2 (oI (0)) = lv1 at l0 l1 l2 ⊢
  show t_X d 79 2 lv1 [] h0 P
  exact sk_loop hd hd2 hx hS0 hP 32 0 _ _ (by omega) (by omega) hJ (fun j hj => absurd hj (by omega)) (fun j hj => rfl) l0 l1 l2
def ksu_t : eK := (79, (2, [(0, 2, (0, 100000, [3])), (1, 2, (0, 100000, [77]))], [], []), (0, []), 284740797238364042028469383416658730376195348473378871195124442568738972434021512969929537974788828141693478721847296, [(none, [], [])])
theorem esu_t : ex_mid eG eKT eDX 4000 ksu_t [] 29 = true := by decide +kernel
theorem Wsu_t : ksu_t.2.2.2.1 &&& kk_59.2.2.2.1 = ksu_t.2.2.2.1 ∧ ∀ j, j < 32 → ksu_t.2.2.2.1.testBit (cn (4 + 2 * j) + 2) = false ∧ ksu_t.2.2.2.1.testBit (cn (78 + 2 * j) + 2) = false := by decide +kernel
set_option maxHeartbeats 4000000 in
theorem su_loop {d : Nat} (hd : 5 ≤ d) (hd2 : d ≤ 1000000) {h0 : pH} (hx : xL h0) (hS0 : rS h0) {P : Option pv × pH → Prop} (hP : ∀ g1 : pH, J_ kk_59.2.2.2.1 h0 g1 → xL g1 → (∀ j, j < 32 → cF g1 (4 + 2 * j) 2 = cF h0 (78 + 2 * j) 2) → (∀ j, j < 32 → cF g1 (78 + 2 * j) 2 = cF h0 (78 + 2 * j) 2) → P (none, g1)) : ∀ (n m : Nat) (lv : List (Nat × pv)) (g : pH), 32 - m ≤ n → m ≤ 32 → J_ kk_59.2.2.2.1 h0 g → (∀ j, j < m → cF g (4 + 2 * j) 2 = cF h0 (78 + 2 * j) 2) → (∀ j, j < 32 → cF g (78 + 2 * j) 2 = cF h0 (78 + 2 * j) 2) → px_lg lv 0 = some (pvR 2) → px_lg lv 1 = some (pvR 76) → px_lg lv 2 = some (oI (m : Int)) → t_X d 79 2 lv [] g P := by
  intro n
  induction n with
  | zero =>
    intro m lv g hn hm2 hJ hc hs l0 l1 l2
    refine t_0 qsu_2 rfl (ld_i l2) ?_
    refine t_0 qsu_3 rfl (pq_b (by decide)) ?_
    refine tb_ge qsu_5 (by decide) ⟨by omega, by omega⟩ ⟨by omega, by omega⟩ (fun c1 => ?_) (fun c1 => absurd c1 (by omega))
    show t_X d 79 29 lv [] g P
    refine mid_L (k := ksu_t) esu_t hJ.1 (xL_K _ _ _ hJ.2 Wku_b.2.2.2.2.1 hx) (xs := [cv (pvR 2), cv (pvR 76)]) (ys := []) ⟨by show 2 ≤ _; omega, ⟨⟨pvR 2, l0, rfl, rfl, ok_rl rfl (by decide)⟩, ⟨pvR 76, l1, rfl, rfl, ok_rl rfl (by decide)⟩, trivial⟩, trivial, fun c hc => absurd hc List.not_mem_nil⟩ (by omega) (fun o G1 X1 M1 P1 => ?_)
    obtain ⟨o1, o2⟩ := o
    obtain ⟨rfl, ys, hF⟩ := po_n P1
    exact hP o2 (J_up Wsu_t.1 hJ ⟨G1, M1⟩) X1 (fun j hj => by rw [cF_M M1 (Wsu_t.2 j hj).1]; exact hc j (by omega)) (fun j hj => by rw [cF_M M1 (Wsu_t.2 j hj).2]; exact hs j hj)
  | succ n ih =>
    intro m lv g hn hm2 hJ hc hs l0 l1 l2
    by_cases hm : m < 32
    · have hSg := rS_M hJ.2 ⟨Wku_b.2.2.2.2.2.1, Wku_b.2.2.2.2.2.2⟩ hS0
      have hb9 := cs78_2 hm hJ.1
      refine t_0 qsu_2 rfl (ld_i l2) ?_
      refine t_0 qsu_3 rfl (pq_b (by decide)) ?_
      refine tb_ge qsu_5 (by decide) ⟨by omega, by omega⟩ ⟨by omega, by omega⟩ (fun c1 => absurd c1 (by omega)) (fun c1 => ?_)
      show t_X d 79 8 lv [] g P
      refine t_0 qsu_8 rfl (ld_a l0) ?_
      refine t_0 qsu_9 rfl (cr_2_0 hJ.1) ?_
      refine t_0 qsu_12 rfl (ld_i l2) ?_
      refine t_0 qsu_13 rfl (pq_a3 hSg hm (by omega)) ?_
      refine t_0 qsu_14 rfl (ld_a l1) ?_
      refine t_0 qsu_15 rfl (cr_76_0 hJ.1) ?_
      refine t_0 qsu_18 rfl (ld_i l2) ?_
      refine t_0 qsu_19 rfl (pq_a77 hSg hm (by omega)) ?_
      refine t_3 qsu_20 rfl (ar := ([pvR (4 + 2 * m), pvR (78 + 2 * m)], [])) (pcal_v1 rfl rfl (el_s4 hm)) ⟨by omega, Nat.le_of_ble_eq_true rfl, Nat.le_of_ble_eq_true rfl, rfl⟩ ?_
      refine mid_L (k := k73 78 4 m (cF g (78 + 2 * m) 2)) (e73_at hm (by omega)).2 hJ.1 (xL_K _ _ _ hJ.2 Wku_b.2.2.2.2.1 hx) (xs := [cv (pvR (4 + 2 * m)), cv (pvR (78 + 2 * m))]) (ys := [cF g (78 + 2 * m) 2]) ⟨by show 1 ≤ _; omega, ⟨⟨pvR (4 + 2 * m), rfl, rfl, rfl, ok_rl (by omega) (by omega)⟩, ⟨pvR (78 + 2 * m), rfl, rfl, rfl, ok_rl (by omega) (by omega)⟩, trivial⟩, ⟨⟨.inl (g.1 (78 + 2 * m) 2), hc_z (el_s78 hm) (Nat.le_of_ble_eq_true rfl) rfl, rfl, rfl, ⟨Int.le_refl _, Int.le_refl _, Or.inl rfl⟩⟩, trivial⟩, fun c hc => absurd hc List.not_mem_nil⟩ (by omega) (fun o G1 X1 M1 P1 => ?_)
      obtain ⟨o1, o2⟩ := o
      obtain ⟨rfl, ys, hF⟩ := po_n P1
      have hJ9 : J_ kk_59.2.2.2.1 h0 o2 := J_up (W73_k m hm).2 hJ ⟨G1, M1⟩
      have hF9 : cF o2 (4 + 2 * m) 2 = cF g (78 + 2 * m) 2 := fa_z (el_s4 hm) (Nat.le_of_ble_eq_true rfl) rfl hF
      show t_X d 79 23 lv [] o2 P
      refine t_2 qsu_23 rfl (w := (px_s1 lv 2 (oI ((m : Int) + 1)), [])) (pq_inc l2 (by decide)) ?_
      replace l0 : px_lg (px_s1 lv 2 (oI ((m : Int) + 1))) 0 = some (pvR 2) := s1_ne (by decide) (fun _ => rfl) l0
      replace l1 : px_lg (px_s1 lv 2 (oI ((m : Int) + 1))) 1 = some (pvR 76) := s1_ne (by decide) (fun _ => rfl) l1
      have l2 : px_lg (px_s1 lv 2 (oI ((m : Int) + 1))) 2 = some (oI ((m : Int) + 1)) := s1_eq
      generalize px_s1 lv 2 (oI ((m : Int) + 1)) = lv2 at l0 l1 l2 ⊢
      show t_X d 79 26 lv2 [] o2 P
      refine t_1 qsu_26 rfl (pb_goto (pc := 26) (by decide)) ?_
      show t_X d 79 2 lv2 [] o2 P
      refine ih (m + 1) _ o2 (by omega) (by omega) hJ9 (fun j hj => ?_) (fun j hj => ?_) l0 l1 l2
      · rcases Nat.lt_or_ge j m with z | z
        · rw [cF_M M1 (((W73_n m hm j (by omega)).2.2 (by omega)).2)]; exact hc j z
        · rw [show j = m by omega, hF9]; exact hs m hm
      · rw [cF_M M1 (W73_n m hm j hj).2.1]; exact hs j hj
    · skip
      refine t_0 qsu_2 rfl (ld_i l2) ?_
      refine t_0 qsu_3 rfl (pq_b (by decide)) ?_
      refine tb_ge qsu_5 (by decide) ⟨by omega, by omega⟩ ⟨by omega, by omega⟩ (fun c1 => ?_) (fun c1 => absurd c1 (by omega))
      show t_X d 79 29 lv [] g P
      refine mid_L (k := ksu_t) esu_t hJ.1 (xL_K _ _ _ hJ.2 Wku_b.2.2.2.2.1 hx) (xs := [cv (pvR 2), cv (pvR 76)]) (ys := []) ⟨by show 2 ≤ _; omega, ⟨⟨pvR 2, l0, rfl, rfl, ok_rl rfl (by decide)⟩, ⟨pvR 76, l1, rfl, rfl, ok_rl rfl (by decide)⟩, trivial⟩, trivial, fun c hc => absurd hc List.not_mem_nil⟩ (by omega) (fun o G1 X1 M1 P1 => ?_)
      obtain ⟨o1, o2⟩ := o
      obtain ⟨rfl, ys, hF⟩ := po_n P1
      exact hP o2 (J_up Wsu_t.1 hJ ⟨G1, M1⟩) X1 (fun j hj => by rw [cF_M M1 (Wsu_t.2 j hj).1]; exact hc j (by omega)) (fun j hj => by rw [cF_M M1 (Wsu_t.2 j hj).2]; exact hs j hj)
theorem su_run {d : Nat} (hd : 5 ≤ d) (hd2 : d ≤ 1000000) {h0 : pH} (hG : g_I eG h0) (hx : xL h0) (hS0 : rS h0) {P : Option pv × pH → Prop} (hP : ∀ g1 : pH, J_ kk_59.2.2.2.1 h0 g1 → xL g1 → (∀ j, j < 32 → cF g1 (4 + 2 * j) 2 = cF h0 (78 + 2 * j) 2) → (∀ j, j < 32 → cF g1 (78 + 2 * j) 2 = cF h0 (78 + 2 * j) 2) → P (none, g1)) {lv : List (Nat × pv)} (l0 : px_lg lv 0 = some (pvR 2)) (l1 : px_lg lv 1 = some (pvR 76)) : t_X d 79 0 lv [] h0 P := by
  have hJ : J_ kk_59.2.2.2.1 h0 h0 := J_rf hG
  refine t_0 qsu_0 rfl rfl ?_
  refine t_2 qsu_1 rfl (w := (px_s1 lv 2 (oI (0)), [])) rfl ?_
  replace l0 : px_lg (px_s1 lv 2 (oI (0))) 0 = some (pvR 2) := s1_ne (by decide) (fun _ => rfl) l0
  replace l1 : px_lg (px_s1 lv 2 (oI (0))) 1 = some (pvR 76) := s1_ne (by decide) (fun _ => rfl) l1
  have l2 : px_lg (px_s1 lv 2 (oI (0))) 2 = some (oI (0)) := s1_eq
  generalize px_s1 lv 2 (oI (0)) = lv1 at l0 l1 l2 ⊢
  show t_X d 79 2 lv1 [] h0 P
  exact su_loop hd hd2 hx hS0 hP 32 0 _ _ (by omega) (by omega) hJ (fun j hj => absurd hj (by omega)) (fun j hj => rfl) l0 l1 l2
theorem ctl_e {f g : Nat → Int} : ∀ {n : Nat}, (∀ j, j < n → f j = g j) → ctl f n = ctl g n
  | 0, _ => rfl
  | n + 1, h => by
    show ctl f n + f n = ctl g n + g n
    rw [ctl_e (n := n) (fun j hj => h j (by omega)), h n (by omega)]
def cF_t (g : pH) (j : Nat) : Int := cF g (4 + 2 * j) 2
set_option maxHeartbeats 2000000 in
theorem ck_run {d : Nat} (hd : 8 ≤ d) (hd2 : d ≤ 1000000) {g : pH} (hG : g_I eG g) (hx : xL g) (hS : rS g) {P : Option pv × pH → Prop} (hP : ∀ g1 : pH, g_I eG g1 → xL g1 → f_M kk_57.2.2.2.1 g g1 → cF g1 0 4 = 1 → (∀ j, j < 32 → cF g1 (78 + 2 * j) 2 = cF g (4 + 2 * j) 2) → (∀ j, j < 32 → cF g1 (4 + 2 * j) 2 = cF g (4 + 2 * j) 2) → P (some (oI (ctl (cF_t g) 32)), g1)) {lv : List (Nat × pv)} (l0 : px_lg lv 0 = some (pvR 0)) : t_X d 126 0 lv [] g P := by
  have hJ : J_ kk_57.2.2.2.1 g g := J_rf hG
  have w_0_4 := Wku_b.1
  refine t_0 qkp_0 rfl (ld_a l0) ?_
  refine t_0 qkp_1 rfl (cr_0_3 hJ.1) ?_
  refine t_0 qkp_4 rfl (ld_a l0) ?_
  refine t_0 qkp_5 rfl (cr_0_2 hJ.1) ?_
  refine t_3 qkp_8 rfl (ar := ([pvR 76, pvR 2], [])) (pcal_v1 rfl rfl er_76) ⟨by omega, Nat.le_of_ble_eq_true rfl, Nat.le_of_ble_eq_true rfl, rfl⟩ ?_
  refine sk_run (by omega) (by omega) hG hx hS (fun gq hJq Xq c1 c2 => ?_) rfl rfl
  show t_X d 126 11 lv [] gq P
  refine t_0 qkp_11 rfl (ld_a l0) ?_
  refine t_0 qkp_12 rfl rfl ?_
  refine tw_z qkp_13 er_0 rfl hJq w_0_4 gx_0_4 (by decide) ⟨by omega, by omega⟩ (by omega) (fun g1 hJ1 e1 => ?_)
  have v1 : cF g1 0 4 = 1 := by rw [e1]; exact pc_at (by omega) (by omega)
  show t_X d 126 16 lv [] g1 P
  refine t_0 qkp_16 rfl (ld_a l0) ?_
  refine t_0 qkp_17 rfl (cr_0_2 hJ1.1) ?_
  refine t_3 qkp_20 rfl (ar := ([pvR 2], [])) (pcal_v0 rfl rfl er_2) ⟨by omega, Nat.le_of_ble_eq_true rfl, Nat.le_of_ble_eq_true rfl, rfl⟩ ?_
  refine tc_run hJ1.1 (rS_M hJ1.2 ⟨Wku_b.2.2.1, Wku_b.2.2.2.1⟩ hS) ?_ rfl
  show t_X d 126 23 lv [oI (ctl (fun j => cF g1 (4 + 2 * j) 2) 32)] g1 P
  refine t_5 qkp_23 rfl rfl ?_
  have e9 : ∀ j, cF g1 (4 + 2 * j) 2 = cF gq (4 + 2 * j) 2 := fun j => by rw [e1]; exact pc_ne (by omega)
  have e8 : ∀ j, cF g1 (78 + 2 * j) 2 = cF gq (78 + 2 * j) 2 := fun j => by rw [e1]; exact pc_ne (by omega)
  rw [ctl_e (g := cF_t g) (fun j hj => (e9 j).trans (c2 j hj))]
  exact hP g1 hJ1.1 (xL_K _ _ _ hJ1.2 Wku_b.2.1 hx) hJ1.2 (by omega) (fun j hj => (e8 j).trans (c1 j hj)) (fun j hj => (e9 j).trans (c2 j hj))
theorem pr_z {t : Option FieldType} {e : Int} (ht : t = some .boolean) (h : e = 0 ∨ e = 1) : px_ret t .ireturn [oI e] = some (some (oI e)) := by
  rw [ht]
  rcases h with rfl | rfl <;> rfl
theorem Wun_4 : kk_59.2.2.2.1.testBit (cn 0 + 4) = false := by decide +kernel
set_option maxHeartbeats 2000000 in
theorem cu_run {d : Nat} (hd : 8 ≤ d) (hd2 : d ≤ 1000000) {g : pH} (hG : g_I eG g) (hx : xL g) (hS : rS g) {P : Option pv × pH → Prop} (hA : cF g 0 4 ≠ 0 → ∀ g1 : pH, g_I eG g1 → xL g1 → f_M kk_59.2.2.2.1 g g1 → (∀ j, j < 32 → cF g1 (4 + 2 * j) 2 = cF g (78 + 2 * j) 2) → (∀ j, j < 32 → cF g1 (78 + 2 * j) 2 = cF g (78 + 2 * j) 2) → P (some (oI (cF g 0 4)), g1)) (hR : cF g 0 4 = 0 → P (some (oI (cF g 0 4)), g)) {lv : List (Nat × pv)} (l0 : px_lg lv 0 = some (pvR 0)) : t_X d 160 0 lv [] g P := by
  have hJ : J_ kk_59.2.2.2.1 g g := J_rf hG
  refine t_0 qun_0 rfl (ld_a l0) ?_
  have r1 := cb_0_4 hJ.1
  refine t_0 qun_1 rfl (pq_cz (y := 4) er_0 rfl) ?_
  refine tz_eq qun_4 (by decide) ⟨by omega, by omega⟩ (fun c2 => ?_) (fun c2 => ?_)
  · show t_X d 160 18 lv [] g P
    refine t_0 qun_18 rfl (ld_a l0) ?_
    have r3 := cb_0_4 hJ.1
    refine t_0 qun_19 rfl (pq_cz (y := 4) er_0 rfl) ?_
    refine t_5 qun_22 rfl (pr_z rfl (by omega)) ?_
    exact hR (by omega)
  · show t_X d 160 7 lv [] g P
    refine t_0 qun_7 rfl (ld_a l0) ?_
    refine t_0 qun_8 rfl (cr_0_2 hJ.1) ?_
    refine t_0 qun_11 rfl (ld_a l0) ?_
    refine t_0 qun_12 rfl (cr_0_3 hJ.1) ?_
    refine t_3 qun_15 rfl (ar := ([pvR 2, pvR 76], [])) (pcal_v1 rfl rfl er_2) ⟨by omega, Nat.le_of_ble_eq_true rfl, Nat.le_of_ble_eq_true rfl, rfl⟩ ?_
    refine su_run (by omega) (by omega) hG hx hS (fun gq hJq Xq c1 c2 => ?_) rfl rfl
    show t_X d 160 18 lv [] gq P
    refine t_0 qun_18 rfl (ld_a l0) ?_
    have r4 := cb_0_4 hJq.1
    refine t_0 qun_19 rfl (pq_cz (y := 4) er_0 rfl) ?_
    refine t_5 qun_22 rfl (pr_z rfl (by omega)) ?_
    rw [cF_M hJq.2 Wun_4]
    exact hA (by omega) gq hJq.1 Xq hJq.2 c1 c2
end
