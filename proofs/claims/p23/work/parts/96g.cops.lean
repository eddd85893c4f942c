/-! the tie: ops of the class that read the tape or a slide (printed by wip/e2/t2.py) -/
theorem qcch_0 : xe_look (xc 110) 0 = some (.aload_n 0, 1, 0, 0, 0) := by decide +kernel
theorem qcch_1 : xe_look (xc 110) 1 = some (.getfield 16, 3, 11, 2, 983) := by decide +kernel
theorem qcch_4 : xe_look (xc 110) 4 = some (.iload_n 1, 1, 0, 0, 0) := by decide +kernel
theorem qcch_5 : xe_look (xc 110) 5 = some (.invokevirtual 107, 3, 0, 84, 984) := by decide +kernel
theorem qcch_8 : xe_look (xc 110) 8 = some (.astore_n 3, 1, 0, 0, 0) := by decide +kernel
theorem qcda_0 : xe_look (xc 116) 0 = some (.aload_n 0, 1, 0, 0, 0) := by decide +kernel
theorem qcda_1 : xe_look (xc 116) 1 = some (.getfield 16, 3, 11, 2, 983) := by decide +kernel
theorem qcda_4 : xe_look (xc 116) 4 = some (.iload_n 1, 1, 0, 0, 0) := by decide +kernel
theorem qcda_5 : xe_look (xc 116) 5 = some (.invokevirtual 107, 3, 0, 84, 984) := by decide +kernel
theorem qcda_8 : xe_look (xc 116) 8 = some (.astore_n 3, 1, 0, 0, 0) := by decide +kernel
theorem qcod_0 : xe_look (xc 137) 0 = some (.aload_n 0, 1, 0, 0, 0) := by decide +kernel
theorem qcod_1 : xe_look (xc 137) 1 = some (.getfield 16, 3, 11, 2, 983) := by decide +kernel
theorem qcod_4 : xe_look (xc 137) 4 = some (.iload_n 1, 1, 0, 0, 0) := by decide +kernel
theorem qcod_5 : xe_look (xc 137) 5 = some (.invokevirtual 107, 3, 0, 84, 984) := by decide +kernel
theorem qcod_8 : xe_look (xc 137) 8 = some (.astore 5, 2, 0, 0, 0) := by decide +kernel
theorem qcpu_0 : xe_look (xc 139) 0 = some (.aload_n 0, 1, 0, 0, 0) := by decide +kernel
theorem qcpu_1 : xe_look (xc 139) 1 = some (.getfield 16, 3, 11, 2, 983) := by decide +kernel
theorem qcpu_4 : xe_look (xc 139) 4 = some (.iload_n 1, 1, 0, 0, 0) := by decide +kernel
theorem qcpu_5 : xe_look (xc 139) 5 = some (.invokevirtual 107, 3, 0, 84, 984) := by decide +kernel
theorem qcpu_8 : xe_look (xc 139) 8 = some (.astore_n 3, 1, 0, 0, 0) := by decide +kernel
theorem qcsu_0 : xe_look (xc 150) 0 = some (.aload_n 0, 1, 0, 0, 0) := by decide +kernel
theorem qcsu_1 : xe_look (xc 150) 1 = some (.getfield 16, 3, 11, 2, 983) := by decide +kernel
theorem qcsu_4 : xe_look (xc 150) 4 = some (.iload_n 1, 1, 0, 0, 0) := by decide +kernel
theorem qcsu_5 : xe_look (xc 150) 5 = some (.invokevirtual 107, 3, 0, 84, 984) := by decide +kernel
theorem qcsu_8 : xe_look (xc 150) 8 = some (.astore_n 3, 1, 0, 0, 0) := by decide +kernel
theorem er_0 : eL[0]? = some (0, 11) := by decide +kernel
theorem cg_0_2 : (eG (cn 0 + 2)).2.2 = [3] := by decide +kernel
theorem cr_0_2 {d i : Nat} {lv : List (Nat × pv)} {r : List pv} {g : pH} (hG : g_I eG g) : px_push eL d none (.getfield i) 11 2 lv (pvR 0 :: r) g = some (pvR 2 :: r) := pget er_0 (gI_o (r := 2) hG er_0 (Nat.le_of_ble_eq_true rfl) (y := 2) rfl cg_0_2)
theorem gx_0_1 : eG (cn 0 + 1) = (0, 260, []) := by decide +kernel
theorem cb_0_1 {g : pH} (hG : g_I eG g) : 0 ≤ cF g 0 1 ∧ cF g 0 1 ≤ 260 := cb_i hG er_0 (Nat.le_of_ble_eq_true rfl) rfl gx_0_1
theorem ok_oI {a lo hi : Int} (h : lo ≤ a ∧ a ≤ hi) (h0 : -2147483648 ≤ lo) (h1 : hi ≤ 2147483647) : ok_v (cv (oI a)) (lo, hi, []) := by
  have e : cv (oI a) = a := oT (by omega) (by omega)
  rw [e]
  exact ⟨h.1, h.2, Or.inl rfl⟩
theorem cv_oI {a : Int} (h : -2147483648 ≤ a ∧ a ≤ 2147483647) : cv (oI a) = a := oT h.1 h.2
theorem ok_nul : ok_v (cv (.inr (.inr none))) (0, 100000, [0]) := ⟨by decide, by decide, Or.inr (List.mem_singleton.mpr rfl)⟩
theorem ok_sl4 {m : Nat} (h : m < 32) : ok_v (cv (pvR (4 + 2 * m))) (0, 100000, [5, 7, 9, 11, 13, 15, 17, 19, 21, 23, 25, 27, 29, 31, 33, 35, 37, 39, 41, 43, 45, 47, 49, 51, 53, 55, 57, 59, 61, 63, 65, 67]) := by
  have : ∀ m, m < 32 → (((4 + 2 * m : Nat) : Int) + 1).toNat ∈ [5, 7, 9, 11, 13, 15, 17, 19, 21, 23, 25, 27, 29, 31, 33, 35, 37, 39, 41, 43, 45, 47, 49, 51, 53, 55, 57, 59, 61, 63, 65, 67] := by decide
  exact ⟨by show (0 : Int) ≤ ((4 + 2 * m : Nat) : Int) + 1; omega, by show ((4 + 2 * m : Nat) : Int) + 1 ≤ 100000; omega, Or.inr (this m h)⟩
theorem ok_s4 {m : Nat} (h : m < 32) : ok_v (cv (pvR (4 + 2 * m))) (0, 100000, [5 + 2 * m]) := ⟨by show (0 : Int) ≤ ((4 + 2 * m : Nat) : Int) + 1; omega, by show ((4 + 2 * m : Nat) : Int) + 1 ≤ 100000; omega, Or.inr (List.mem_singleton.mpr (by show (((4 + 2 * m : Nat) : Int) + 1).toNat = _; omega))⟩
theorem hc_i {h : pH} {k x y : Nat} (hk : eL[k]? = some (0, x)) (hy : y < pnf x) (ht : xk_ty x y = .int) : h_c h k y 0 = some (.inl (h.1 k y)) := by
  rw [h_c_at hk rfl hy, pFi ht]
theorem hc_z {h : pH} {k x y : Nat} (hk : eL[k]? = some (0, x)) (hy : y < pnf x) (ht : xk_ty x y = .boolean) : h_c h k y 0 = some (.inl (h.1 k y)) := by
  rw [h_c_at hk rfl hy, pFz ht]
theorem po_i {ρ : List Int} {o1 : Option pv} {o2 : pH} {e : eE} {F : List eSF} {C : List eT} (h : ∃ p ∈ [((some (0, e), F, C) : eP)], ∃ zs, m_P p ρ o1 o2 zs) : ∃ z : Int32, o1 = some (.inl z) ∧ ok_v z.toInt e ∧ ∃ ys, m_F o2 F ys := by
  obtain ⟨p, hp, zs, hz⟩ := h
  obtain rfl := List.mem_singleton.mp hp
  obtain ⟨⟨v, x, ys, e1, ⟨e2, e3, e4⟩, -, e6⟩, -⟩ := hz
  obtain ⟨z, rfl⟩ := ct_0 e2
  subst e3
  exact ⟨z, e1, e4, ys, e6⟩
theorem po_l {ρ : List Int} {o1 : Option pv} {o2 : pH} {e : eE} {F : List eSF} {C : List eT} (h : ∃ p ∈ [((some (1, e), F, C) : eP)], ∃ zs, m_P p ρ o1 o2 zs) : ∃ z : Int64, o1 = some (.inr (.inl z)) ∧ ∃ ys, m_F o2 F ys := by
  obtain ⟨p, hp, zs, hz⟩ := h
  obtain rfl := List.mem_singleton.mp hp
  obtain ⟨⟨v, x, ys, e1, ⟨e2, e3, e4⟩, -, e6⟩, -⟩ := hz
  obtain ⟨z, rfl⟩ := ct_1 e2
  exact ⟨z, e1, ys, e6⟩
theorem po_c {ρ : List Int} {o1 : Option pv} {o2 : pH} {c : Int} {F : List eSF} {C : List eT} (h : ∃ p ∈ [((some (0, (c, c, [])), F, C) : eP)], ∃ zs, m_P p ρ o1 o2 zs) : o1 = some (oI c) ∧ ∃ ys, m_F o2 F ys := by
  obtain ⟨z, h1, h2, h3⟩ := po_i h
  refine ⟨?_, h3⟩
  rw [h1, oI_r]
  have q1 : c ≤ z.toInt := h2.1
  have q2 : z.toInt ≤ c := h2.2.1
  rw [show z.toInt = c by omega]
theorem po_n {ρ : List Int} {o1 : Option pv} {o2 : pH} {F : List eSF} {C : List eT} (h : ∃ p ∈ [((none, F, C) : eP)], ∃ zs, m_P p ρ o1 o2 zs) : o1 = none ∧ ∃ ys, m_F o2 F ys := by
  obtain ⟨p, hp, zs, hz⟩ := h
  obtain rfl := List.mem_singleton.mp hp
  obtain ⟨⟨e1, ys, -, e6⟩, -⟩ := hz
  exact ⟨e1, ys, e6⟩
theorem fa_i {h : pH} {k x y : Nat} {c : Int} (hk : eL[k]? = some (0, x)) (hy : y < pnf x) (ht : xk_ty x y = .int) {F : List eSF} {ys : List Int} (hF : m_F h ((k, y, 0, (c, c, [])) :: F) ys) : cF h k y = c := by
  match ys, hF with
  | _ :: _, hF =>
    obtain ⟨⟨v, h1, h2, h3, h4⟩, -⟩ := hF
    rw [hc_i hk hy ht] at h1
    cases h1
    subst h3
    have q1 : c ≤ cF h k y := h4.1
    have q2 : cF h k y ≤ c := h4.2.1
    omega
theorem fa_z {h : pH} {k x y : Nat} {c : Int} (hk : eL[k]? = some (0, x)) (hy : y < pnf x) (ht : xk_ty x y = .boolean) {F : List eSF} {ys : List Int} (hF : m_F h ((k, y, 0, (c, c, [])) :: F) ys) : cF h k y = c := by
  match ys, hF with
  | _ :: _, hF =>
    obtain ⟨⟨v, h1, h2, h3, h4⟩, -⟩ := hF
    rw [hc_z hk hy ht] at h1
    cases h1
    subst h3
    have q1 : c ≤ cF h k y := h4.1
    have q2 : cF h k y ≤ c := h4.2.1
    omega
theorem f_M_0 {W : Nat} {h0 h : pH} (a : f_M 0 h0 h) : f_M W h0 h := ⟨fun k y _ => a.1 k y (Nat.zero_testBit _), fun k _ => a.2 k (Nat.zero_testBit _)⟩
theorem f_M_w {W V : Nat} {h0 h : pH} (hV : V &&& W = V) (a : f_M V h0 h) : f_M W h0 h := f_M_tr hV (f_M_rf _ _) a
theorem cF_M {V : Nat} {h h' : pH} (hM : f_M V h h') {k y : Nat} (hy : V.testBit (cn k + y) = false) : cF h' k y = cF h k y := congrArg Int32.toInt (hM.1 k y hy).1
theorem cF_M0 {h h' : pH} (hM : f_M 0 h h') (k y : Nat) : cF h' k y = cF h k y := cF_M hM (Nat.zero_testBit _)
def kcpu_n : eK := (139, (2, [(0, 2, (0, 100000, [1])), (1, 0, ((-2147483648), 2147483647, [])), (2, 0, ((-2147483648), 2147483647, [])), (3, 2, (0, 100000, [0]))], [], []), (0, []), 0, [(some (0, (0, 0, [])), [], [])])
theorem ecpu_n : ex_mid eG eKT eDX 4000 kcpu_n [] 9 = true := by decide +kernel
def kcpu_1 : eK := (139, (2, [(0, 2, (0, 100000, [1])), (1, 0, ((-2147483648), 2147483647, [])), (2, 0, ((-2147483648), (-1), [])), (3, 2, (0, 100000, [5, 7, 9, 11, 13, 15, 17, 19, 21, 23, 25, 27, 29, 31, 33, 35, 37, 39, 41, 43, 45, 47, 49, 51, 53, 55, 57, 59, 61, 63, 65, 67]))], [], []), (0, []), 0, [(some (0, (0, 0, [])), [], [])])
theorem ecpu_1 : ex_mid eG eKT eDX 4000 kcpu_1 [] 9 = true := by decide +kernel
def kcpu_2 : eK := (139, (2, [(0, 2, (0, 100000, [1])), (1, 0, ((-2147483648), 2147483647, [])), (2, 0, (8, 2147483647, [])), (3, 2, (0, 100000, [5, 7, 9, 11, 13, 15, 17, 19, 21, 23, 25, 27, 29, 31, 33, 35, 37, 39, 41, 43, 45, 47, 49, 51, 53, 55, 57, 59, 61, 63, 65, 67]))], [], []), (0, []), 0, [(some (0, (0, 0, [])), [], [])])
theorem ecpu_2 : ex_mid eG eKT eDX 4000 kcpu_2 [] 9 = true := by decide +kernel
def kcpu_a : eK := (139, (2, [(0, 2, (0, 100000, [1])), (1, 0, ((-2147483648), 2147483647, [])), (2, 0, (0, 7, [])), (3, 2, (0, 100000, [5, 7, 9, 11, 13, 15, 17, 19, 21, 23, 25, 27, 29, 31, 33, 35, 37, 39, 41, 43, 45, 47, 49, 51, 53, 55, 57, 59, 61, 63, 65, 67]))], [], []), (0, []), 4812164899413102004430757217897363679174369720379268034678589814881011452307915316489285082423658480801981399040, [(some (0, (1, 1, [])), [], [])])
theorem ecpu_a : ex_mid eG eKT eDX 4000 kcpu_a [] 9 = true := by decide +kernel
def kcda_n : eK := (116, (2, [(0, 2, (0, 100000, [1])), (1, 0, ((-2147483648), 2147483647, [])), (2, 0, ((-2147483648), 2147483647, [])), (3, 2, (0, 100000, [0]))], [], []), (0, []), 0, [(some (0, (0, 0, [])), [], [])])
theorem ecda_n : ex_mid eG eKT eDX 4000 kcda_n [] 9 = true := by decide +kernel
def kcda_1 : eK := (116, (2, [(0, 2, (0, 100000, [1])), (1, 0, ((-2147483648), 2147483647, [])), (2, 0, ((-2147483648), (-1), [])), (3, 2, (0, 100000, [5, 7, 9, 11, 13, 15, 17, 19, 21, 23, 25, 27, 29, 31, 33, 35, 37, 39, 41, 43, 45, 47, 49, 51, 53, 55, 57, 59, 61, 63, 65, 67]))], [], []), (0, []), 0, [(some (0, (0, 0, [])), [], [])])
theorem ecda_1 : ex_mid eG eKT eDX 4000 kcda_1 [] 9 = true := by decide +kernel
def kcda_2 : eK := (116, (2, [(0, 2, (0, 100000, [1])), (1, 0, ((-2147483648), 2147483647, [])), (2, 0, (100, 2147483647, [])), (3, 2, (0, 100000, [5, 7, 9, 11, 13, 15, 17, 19, 21, 23, 25, 27, 29, 31, 33, 35, 37, 39, 41, 43, 45, 47, 49, 51, 53, 55, 57, 59, 61, 63, 65, 67]))], [], []), (0, []), 0, [(some (0, (0, 0, [])), [], [])])
theorem ecda_2 : ex_mid eG eKT eDX 4000 kcda_2 [] 9 = true := by decide +kernel
def kcda_a : eK := (116, (2, [(0, 2, (0, 100000, [1])), (1, 0, ((-2147483648), 2147483647, [])), (2, 0, (0, 99, [])), (3, 2, (0, 100000, [5, 7, 9, 11, 13, 15, 17, 19, 21, 23, 25, 27, 29, 31, 33, 35, 37, 39, 41, 43, 45, 47, 49, 51, 53, 55, 57, 59, 61, 63, 65, 67]))], [], []), (0, []), 2406082449706551002215378608948681839587184860189634017339294907440505726153957658244642541211829240400990699520, [(some (0, (1, 1, [])), [], [])])
theorem ecda_a : ex_mid eG eKT eDX 4000 kcda_a [] 9 = true := by decide +kernel
def kcsu_n : eK := (150, (2, [(0, 2, (0, 100000, [1])), (1, 0, ((-2147483648), 2147483647, [])), (2, 0, ((-2147483648), 2147483647, [])), (3, 2, (0, 100000, [0]))], [], []), (0, []), 0, [(some (0, (0, 0, [])), [], [])])
theorem ecsu_n : ex_mid eG eKT eDX 4000 kcsu_n [] 9 = true := by decide +kernel
def kcsu_1 : eK := (150, (2, [(0, 2, (0, 100000, [1])), (1, 0, ((-2147483648), 2147483647, [])), (2, 0, ((-2147483648), (-1), [])), (3, 2, (0, 100000, [5, 7, 9, 11, 13, 15, 17, 19, 21, 23, 25, 27, 29, 31, 33, 35, 37, 39, 41, 43, 45, 47, 49, 51, 53, 55, 57, 59, 61, 63, 65, 67]))], [], []), (0, []), 0, [(some (0, (0, 0, [])), [], [])])
theorem ecsu_1 : ex_mid eG eKT eDX 4000 kcsu_1 [] 9 = true := by decide +kernel
def kcsu_2 : eK := (150, (2, [(0, 2, (0, 100000, [1])), (1, 0, ((-2147483648), 2147483647, [])), (2, 0, (4, 2147483647, [])), (3, 2, (0, 100000, [5, 7, 9, 11, 13, 15, 17, 19, 21, 23, 25, 27, 29, 31, 33, 35, 37, 39, 41, 43, 45, 47, 49, 51, 53, 55, 57, 59, 61, 63, 65, 67]))], [], []), (0, []), 0, [(some (0, (0, 0, [])), [], [])])
theorem ecsu_2 : ex_mid eG eKT eDX 4000 kcsu_2 [] 9 = true := by decide +kernel
def kcsu_a : eK := (150, (2, [(0, 2, (0, 100000, [1])), (1, 0, ((-2147483648), 2147483647, [])), (2, 0, (0, 3, [])), (3, 2, (0, 100000, [5, 7, 9, 11, 13, 15, 17, 19, 21, 23, 25, 27, 29, 31, 33, 35, 37, 39, 41, 43, 45, 47, 49, 51, 53, 55, 57, 59, 61, 63, 65, 67]))], [], []), (0, []), 19248659597652408017723028871589454716697478881517072138714359259524045809231661265957140329694633923207925596160, [(some (0, (1, 1, [])), [], [])])
theorem ecsu_a : ex_mid eG eKT eDX 4000 kcsu_a [] 9 = true := by decide +kernel
def kcod_n : eK := (137, (4, [(0, 2, (0, 100000, [1])), (1, 0, ((-2147483648), 2147483647, [])), (2, 0, ((-2147483648), 2147483647, [])), (3, 0, ((-2147483648), 2147483647, [])), (4, 0, ((-2147483648), 2147483647, [])), (5, 2, (0, 100000, [0]))], [], []), (0, []), 0, [(some (0, ((-1), (-1), [])), [], [])])
theorem ecod_n : ex_mid eG eKT eDX 4000 kcod_n [] 10 = true := by decide +kernel
def kcod_1 : eK := (137, (4, [(0, 2, (0, 100000, [1])), (1, 0, ((-2147483648), 2147483647, [])), (2, 0, ((-2147483648), (-1), [])), (3, 0, ((-2147483648), 2147483647, [])), (4, 0, ((-2147483648), 2147483647, [])), (5, 2, (0, 100000, [5, 7, 9, 11, 13, 15, 17, 19, 21, 23, 25, 27, 29, 31, 33, 35, 37, 39, 41, 43, 45, 47, 49, 51, 53, 55, 57, 59, 61, 63, 65, 67]))], [], []), (0, []), 0, [(some (0, ((-1), (-1), [])), [], [])])
theorem ecod_1 : ex_mid eG eKT eDX 4000 kcod_1 [] 10 = true := by decide +kernel
def kcod_2 : eK := (137, (4, [(0, 2, (0, 100000, [1])), (1, 0, ((-2147483648), 2147483647, [])), (2, 0, (8, 2147483647, [])), (3, 0, ((-2147483648), 2147483647, [])), (4, 0, ((-2147483648), 2147483647, [])), (5, 2, (0, 100000, [5, 7, 9, 11, 13, 15, 17, 19, 21, 23, 25, 27, 29, 31, 33, 35, 37, 39, 41, 43, 45, 47, 49, 51, 53, 55, 57, 59, 61, 63, 65, 67]))], [], []), (0, []), 0, [(some (0, ((-1), (-1), [])), [], [])])
theorem ecod_2 : ex_mid eG eKT eDX 4000 kcod_2 [] 10 = true := by decide +kernel
def kcod_3 : eK := (137, (4, [(0, 2, (0, 100000, [1])), (1, 0, ((-2147483648), 2147483647, [])), (2, 0, ((-2147483648), 2147483647, [])), (3, 0, ((-2147483648), (-1), [])), (4, 0, ((-2147483648), 2147483647, [])), (5, 2, (0, 100000, [5, 7, 9, 11, 13, 15, 17, 19, 21, 23, 25, 27, 29, 31, 33, 35, 37, 39, 41, 43, 45, 47, 49, 51, 53, 55, 57, 59, 61, 63, 65, 67]))], [], []), (0, []), 0, [(some (0, ((-1), (-1), [])), [], [])])
theorem ecod_3 : ex_mid eG eKT eDX 4000 kcod_3 [] 10 = true := by decide +kernel
def kcod_4 : eK := (137, (4, [(0, 2, (0, 100000, [1])), (1, 0, ((-2147483648), 2147483647, [])), (2, 0, ((-2147483648), 2147483647, [])), (3, 0, (9, 2147483647, [])), (4, 0, ((-2147483648), 2147483647, [])), (5, 2, (0, 100000, [5, 7, 9, 11, 13, 15, 17, 19, 21, 23, 25, 27, 29, 31, 33, 35, 37, 39, 41, 43, 45, 47, 49, 51, 53, 55, 57, 59, 61, 63, 65, 67]))], [], []), (0, []), 0, [(some (0, ((-1), (-1), [])), [], [])])
theorem ecod_4 : ex_mid eG eKT eDX 4000 kcod_4 [] 10 = true := by decide +kernel
def kcod_5 : eK := (137, (4, [(0, 2, (0, 100000, [1])), (1, 0, ((-2147483648), 2147483647, [])), (2, 0, ((-2147483648), 2147483647, [])), (3, 0, ((-2147483648), 2147483647, [])), (4, 0, ((-2147483648), (-1), [])), (5, 2, (0, 100000, [5, 7, 9, 11, 13, 15, 17, 19, 21, 23, 25, 27, 29, 31, 33, 35, 37, 39, 41, 43, 45, 47, 49, 51, 53, 55, 57, 59, 61, 63, 65, 67]))], [], []), (0, []), 0, [(some (0, ((-1), (-1), [])), [], [])])
theorem ecod_5 : ex_mid eG eKT eDX 4000 kcod_5 [] 10 = true := by decide +kernel
def kcod_6 : eK := (137, (4, [(0, 2, (0, 100000, [1])), (1, 0, ((-2147483648), 2147483647, [])), (2, 0, ((-2147483648), 2147483647, [])), (3, 0, ((-2147483648), 2147483647, [])), (4, 0, (2, 2147483647, [])), (5, 2, (0, 100000, [5, 7, 9, 11, 13, 15, 17, 19, 21, 23, 25, 27, 29, 31, 33, 35, 37, 39, 41, 43, 45, 47, 49, 51, 53, 55, 57, 59, 61, 63, 65, 67]))], [], []), (0, []), 0, [(some (0, ((-1), (-1), [])), [], [])])
theorem ecod_6 : ex_mid eG eKT eDX 4000 kcod_6 [] 10 = true := by decide +kernel
def kcod_7 : eK := (137, (4, [(0, 2, (0, 100000, [1])), (1, 0, ((-2147483648), 2147483647, [])), (2, 0, (0, 7, [])), (3, 0, (0, 8, [])), (4, 0, (0, 1, [])), (5, 2, (0, 100000, [5, 7, 9, 11, 13, 15, 17, 19, 21, 23, 25, 27, 29, 31, 33, 35, 37, 39, 41, 43, 45, 47, 49, 51, 53, 55, 57, 59, 61, 63, 65, 67]))], [(0, 1, 0, (0, 260, []))], [(1, [(4, (-3)), (7, 1)])]), (0, []), 0, [(some (0, ((-1), (-1), [])), [], [])])
theorem ecod_7 : ex_mid eG eKT eDX 4000 kcod_7 [] 10 = true := by decide +kernel
def kcod_a : eK := (137, (4, [(0, 2, (0, 100000, [1])), (1, 0, ((-2147483648), 2147483647, [])), (2, 0, (0, 7, [])), (3, 0, (0, 8, [])), (4, 0, (0, 1, [])), (5, 2, (0, 100000, [5, 7, 9, 11, 13, 15, 17, 19, 21, 23, 25, 27, 29, 31, 33, 35, 37, 39, 41, 43, 45, 47, 49, 51, 53, 55, 57, 59, 61, 63, 65, 67]))], [(0, 1, 0, (0, 260, []))], [(0, [(4, 3), (7, (-1))])]), (0, []), 1311012070453712419950534765461505738029807186679899300480529022929566353245146459256789896872915698533940650909456299339866412442279735157083494801860045630414013714755483940321578256744621994958175924232839554060526655832830702752510065248305154, [(some (0, ((-2147483648), 2147483647, [])), [(0, 1, 0, (0, 0, []))], [])])
theorem ecod_a : ex_mid eG eKT eDX 4000 kcod_a kc_28 10 = true := by decide +kernel
def kcch_n : eK := (110, (2, [(0, 2, (0, 100000, [1])), (1, 0, ((-2147483648), 2147483647, [])), (2, 0, ((-2147483648), 2147483647, [])), (3, 2, (0, 100000, [0]))], [], []), (0, []), 0, [(some (0, ((-2), (-2), [])), [], [])])
theorem ecch_n : ex_mid eG eKT eDX 4000 kcch_n [] 9 = true := by decide +kernel
def kcch_1 : eK := (110, (2, [(0, 2, (0, 100000, [1])), (1, 0, ((-2147483648), 2147483647, [])), (2, 0, ((-2147483648), (-1), [])), (3, 2, (0, 100000, [5, 7, 9, 11, 13, 15, 17, 19, 21, 23, 25, 27, 29, 31, 33, 35, 37, 39, 41, 43, 45, 47, 49, 51, 53, 55, 57, 59, 61, 63, 65, 67]))], [], []), (0, []), 0, [(some (0, ((-2), (-2), [])), [], [])])
theorem ecch_1 : ex_mid eG eKT eDX 4000 kcch_1 [] 9 = true := by decide +kernel
def kcch_2 : eK := (110, (2, [(0, 2, (0, 100000, [1])), (1, 0, ((-2147483648), 2147483647, [])), (2, 0, (26, 2147483647, [])), (3, 2, (0, 100000, [5, 7, 9, 11, 13, 15, 17, 19, 21, 23, 25, 27, 29, 31, 33, 35, 37, 39, 41, 43, 45, 47, 49, 51, 53, 55, 57, 59, 61, 63, 65, 67]))], [], []), (0, []), 0, [(some (0, ((-2), (-2), [])), [], [])])
theorem ecch_2 : ex_mid eG eKT eDX 4000 kcch_2 [] 9 = true := by decide +kernel
def kcch_3 : eK := (110, (2, [(0, 2, (0, 100000, [1])), (1, 0, ((-2147483648), 2147483647, [])), (2, 0, (0, 25, [])), (3, 2, (0, 100000, [5, 7, 9, 11, 13, 15, 17, 19, 21, 23, 25, 27, 29, 31, 33, 35, 37, 39, 41, 43, 45, 47, 49, 51, 53, 55, 57, 59, 61, 63, 65, 67]))], [(0, 1, 0, (0, 260, []))], [(1, [(3, (-1)), (5, 1)])]), (0, []), 0, [(some (0, ((-2), (-2), [])), [], [])])
theorem ecch_3 : ex_mid eG eKT eDX 4000 kcch_3 [] 9 = true := by decide +kernel
def kcch_a : eK := (110, (2, [(0, 2, (0, 100000, [1])), (1, 0, ((-2147483648), 2147483647, [])), (2, 0, (0, 25, [])), (3, 2, (0, 100000, [5, 7, 9, 11, 13, 15, 17, 19, 21, 23, 25, 27, 29, 31, 33, 35, 37, 39, 41, 43, 45, 47, 49, 51, 53, 55, 57, 59, 61, 63, 65, 67]))], [(0, 1, 0, (0, 260, []))], [(0, [(3, 1), (5, (-1))])]), (0, []), 2, [(some (0, ((-2147483648), 2147483647, [])), [(0, 1, 0, (0, 0, []))], [])])
theorem ecch_a : ex_mid eG eKT eDX 4000 kcch_a kc_61 9 = true := by decide +kernel
def kcty_1 : eK := (157, (18, [(0, 2, (0, 100000, [1])), (1, 0, ((-2147483648), 0, []))], [], []), (0, []), 0, [(some (0, ((-1), (-1), [])), [], [])])
theorem ecty_1 : ex_mid eG eKT eDX 4000 kcty_1 [] 0 = true := by decide +kernel
def kcty_2 : eK := (157, (18, [(0, 2, (0, 100000, [1])), (1, 0, (121, 2147483647, []))], [], []), (0, []), 0, [(some (0, ((-1), (-1), [])), [], [])])
theorem ecty_2 : ex_mid eG eKT eDX 4000 kcty_2 [] 0 = true := by decide +kernel
def kcty_3 : eK := (157, (18, [(0, 2, (0, 100000, [1])), (1, 0, (1, 120, []))], [(0, 1, 0, (0, 260, []))], [(1, [(2, (-1)), (3, 1)])]), (0, []), 0, [(some (0, ((-1), (-1), [])), [], [])])
theorem ecty_3 : ex_mid eG eKT eDX 4000 kcty_3 [] 0 = true := by decide +kernel
def kcty_a : eK := (157, (18, [(0, 2, (0, 100000, [1])), (1, 0, (1, 120, []))], [(0, 1, 0, (0, 260, []))], [(0, [(2, 1), (3, (-1))])]), (0, []), 98572769813498918093404346115115298957599317664901510615055280570607156972517069962586318973050077549246982713871751812082472117332196066869279083470778743111832856172823806112554734190062504383554003081619794855769579424851274236002, [(some (0, ((-2147483648), 2147483647, [])), [(0, 1, 0, (0, 0, []))], [])])
theorem ecty_a : ex_mid eG eKT eDX 4000 kcty_a kc_20 0 = true := by decide +kernel
def kclw_1 : eK := (129, (35, [(0, 2, (0, 100000, [1])), (1, 0, ((-2147483648), 0, []))], [], []), (0, []), 0, [(some (0, ((-1), (-1), [])), [], [])])
theorem eclw_1 : ex_mid eG eKT eDX 4000 kclw_1 [] 0 = true := by decide +kernel
def kclw_2 : eK := (129, (35, [(0, 2, (0, 100000, [1])), (1, 0, (241, 2147483647, []))], [], []), (0, []), 0, [(some (0, ((-1), (-1), [])), [], [])])
theorem eclw_2 : ex_mid eG eKT eDX 4000 kclw_2 [] 0 = true := by decide +kernel
def kclw_3 : eK := (129, (35, [(0, 2, (0, 100000, [1])), (1, 0, (1, 240, []))], [(0, 1, 0, (0, 260, []))], [(1, [(2, (-1)), (3, 1)])]), (0, []), 0, [(some (0, ((-1), (-1), [])), [], [])])
theorem eclw_3 : ex_mid eG eKT eDX 4000 kclw_3 [] 0 = true := by decide +kernel
def kclw_a : eK := (129, (35, [(0, 2, (0, 100000, [1])), (1, 0, (1, 240, []))], [(0, 1, 0, (0, 260, []))], [(0, [(2, 1), (3, (-1))])]), (0, []), 430189861903982877032589576604881358216188852940425056277445177235955540549986262448695140142381869359457528693438100213019016918926432440420528744386749368297035778202711344294229550815264265794803286418367538531528107293607931876100808481177602, [(some (0, ((-2147483648), 2147483647, [])), [(0, 1, 0, (0, 0, []))], [])])
theorem eclw_a : ex_mid eG eKT eDX 4000 kclw_a kc_23 0 = true := by decide +kernel
def kcsp_1 : eK := (149, (4, [(0, 2, (0, 100000, [1])), (1, 0, ((-2147483648), 1, [])), (2, 0, ((-2147483648), 2147483647, []))], [], []), (0, []), 0, [(some (1, ((-1), (-1), [])), [], [])])
theorem ecsp_1 : ex_mid eG eKT eDX 4000 kcsp_1 [] 0 = true := by decide +kernel
def kcsp_2 : eK := (149, (4, [(0, 2, (0, 100000, [1])), (1, 0, (13, 2147483647, [])), (2, 0, ((-2147483648), 2147483647, []))], [], []), (0, []), 0, [(some (1, ((-1), (-1), [])), [], [])])
theorem ecsp_2 : ex_mid eG eKT eDX 4000 kcsp_2 [] 0 = true := by decide +kernel
def kcsp_3 : eK := (149, (4, [(0, 2, (0, 100000, [1])), (1, 0, (2, 12, [])), (2, 0, ((-2147483648), 2147483647, []))], [(0, 1, 0, (0, 260, []))], [(1, [(2, (-1)), (4, 1)])]), (0, []), 0, [(some (1, ((-1), (-1), [])), [], [])])
theorem ecsp_3 : ex_mid eG eKT eDX 4000 kcsp_3 [] 0 = true := by decide +kernel
def kcsp_a : eK := (149, (4, [(0, 2, (0, 100000, [1])), (1, 0, (2, 12, [])), (2, 0, ((-2147483648), 2147483647, []))], [(0, 1, 0, (0, 260, []))], [(0, [(2, 1), (4, (-1))])]), (0, []), 7384033192004520520588592093733520604456903771754801302506621301583367798677270584815091195634082090296357002677155427170022373770222903964592008397647491999967393494168127411744595486790168748578140740695188963759343913628077644536886949518022280763663028584450, [(some (1, ((-9223372036854775808), 9223372036854775807, [])), [(0, 1, 0, (0, 0, []))], [])])
theorem ecsp_a : ex_mid eG eKT eDX 4000 kcsp_a kc_42 0 = true := by decide +kernel
def kcsy_1 : eK := (142, (4, [(0, 2, (0, 100000, [1])), (1, 0, ((-2147483648), 1, [])), (2, 0, ((-2147483648), 2147483647, [])), (3, 0, ((-2147483648), 2147483647, [])), (4, 0, ((-2147483648), 2147483647, []))], [], []), (0, []), 0, [(some (1, ((-1), (-1), [])), [], [])])
theorem ecsy_1 : ex_mid eG eKT eDX 4000 kcsy_1 [] 0 = true := by decide +kernel
def kcsy_2 : eK := (142, (4, [(0, 2, (0, 100000, [1])), (1, 0, (13, 2147483647, [])), (2, 0, ((-2147483648), 2147483647, [])), (3, 0, ((-2147483648), 2147483647, [])), (4, 0, ((-2147483648), 2147483647, []))], [], []), (0, []), 0, [(some (1, ((-1), (-1), [])), [], [])])
theorem ecsy_2 : ex_mid eG eKT eDX 4000 kcsy_2 [] 0 = true := by decide +kernel
def kcsy_3 : eK := (142, (4, [(0, 2, (0, 100000, [1])), (1, 0, ((-2147483648), 2147483647, [])), (2, 0, ((-2147483648), 2147483647, [])), (3, 0, ((-2147483648), 2147483647, [])), (4, 0, ((-2147483648), (-1), []))], [], []), (0, []), 0, [(some (1, ((-1), (-1), [])), [], [])])
theorem ecsy_3 : ex_mid eG eKT eDX 4000 kcsy_3 [] 0 = true := by decide +kernel
def kcsy_4 : eK := (142, (4, [(0, 2, (0, 100000, [1])), (1, 0, ((-2147483648), 2147483647, [])), (2, 0, ((-2147483648), 2147483647, [])), (3, 0, ((-2147483648), 2147483647, [])), (4, 0, (4, 2147483647, []))], [], []), (0, []), 0, [(some (1, ((-1), (-1), [])), [], [])])
theorem ecsy_4 : ex_mid eG eKT eDX 4000 kcsy_4 [] 0 = true := by decide +kernel
def kcsy_5 : eK := (142, (4, [(0, 2, (0, 100000, [1])), (1, 0, (2, 12, [])), (2, 0, ((-2147483648), 2147483647, [])), (3, 0, ((-2147483648), 2147483647, [])), (4, 0, (0, 3, []))], [(0, 1, 0, (0, 260, []))], [(1, [(2, (-1)), (6, 1)])]), (0, []), 0, [(some (1, ((-1), (-1), [])), [], [])])
theorem ecsy_5 : ex_mid eG eKT eDX 4000 kcsy_5 [] 0 = true := by decide +kernel
def kcsy_a : eK := (142, (4, [(0, 2, (0, 100000, [1])), (1, 0, (2, 12, [])), (2, 0, ((-2147483648), 2147483647, [])), (3, 0, ((-2147483648), 2147483647, [])), (4, 0, (0, 3, []))], [(0, 1, 0, (0, 260, []))], [(0, [(2, 1), (6, (-1))])]), (0, []), 31004002458385977071318329127560052319351290322750004141517748095215380917832394522798242424562754752768937292539615320731392094759967030460907634427056202256760541384577482918899239522131000705329365407004064176503070322402327314486706415379322209190323024822274, [(some (1, ((-9223372036854775808), 9223372036854775807, [])), [(0, 1, 0, (0, 0, []))], [])])
theorem ecsy_a : ex_mid eG eKT eDX 4000 kcsy_a kc_43 0 = true := by decide +kernel
set_option maxHeartbeats 2000000 in
theorem cpu_run {d : Nat} (hd : 2 ≤ d) (hd2 : d ≤ 1000000) {g : pH} (hG : g_I eG g) (hx : xL g) (hS : rS g) {i w : Int} (hi : -2147483648 ≤ i ∧ i ≤ 2147483647) (hw : -2147483648 ≤ w ∧ w ≤ 2147483647) {P : Option pv × pH → Prop} (hA : ∀ (g1 : pH), g_I eG g1 → xL g1 → f_M kcpu_a.2.2.2.1 g g1 → toC g i ∧ (0 ≤ w ∧ w ≤ 7) → P (some (oI 1), g1)) (hR : ∀ (g1 : pH), g_I eG g1 → xL g1 → f_M kcpu_a.2.2.2.1 g g1 → (∀ u v, cF g1 u v = cF g u v) → ¬ (toC g i ∧ (0 ≤ w ∧ w ≤ 7)) → P (some (oI 0), g1)) {lv : List (Nat × pv)} (l0 : px_lg lv 0 = some (pvR 0)) (l1 : px_lg lv 1 = some (oI i)) (l2 : px_lg lv 2 = some (oI w)) : t_X d 139 0 lv [] g P := by
  have hJ : J_ 0 g g := J_rf hG
  have hb := cb_0_1 hG
  refine t_0 qcpu_0 rfl (ld_a l0) ?_
  refine t_0 qcpu_1 rfl (cr_0_2 hJ.1) ?_
  refine t_0 qcpu_4 rfl (ld_i l1) ?_
  refine t_3 qcpu_5 rfl (ar := ([pvR 2, oI (i)], [])) (pcal_v1 rfl rfl er_2) ⟨by omega, Nat.le_of_ble_eq_true rfl, Nat.le_of_ble_eq_true rfl, rfl⟩ ?_
  refine td_run (by omega) hJ.1 hS (by omega) (fun m hm e1 c0 => ?_) (fun c0 => ?_) rfl rfl
  · show t_X d 139 8 lv [pvR (4 + 2 * m)] g P
    refine t_2 qcpu_8 rfl (w := (px_s1 lv 3 (pvR (4 + 2 * m)), [])) rfl ?_
    replace l0 : px_lg (px_s1 lv 3 (pvR (4 + 2 * m))) 0 = some (pvR 0) := s1_ne (by decide) (fun _ => rfl) l0
    replace l1 : px_lg (px_s1 lv 3 (pvR (4 + 2 * m))) 1 = some (oI (i)) := s1_ne (by decide) (fun _ => rfl) l1
    replace l2 : px_lg (px_s1 lv 3 (pvR (4 + 2 * m))) 2 = some (oI (w)) := s1_ne (by decide) (fun _ => rfl) l2
    have l3 : px_lg (px_s1 lv 3 (pvR (4 + 2 * m))) 3 = some (pvR (4 + 2 * m)) := s1_eq
    generalize px_s1 lv 3 (pvR (4 + 2 * m)) = lv1 at l0 l1 l2 l3 ⊢
    show t_X d 139 9 lv1 [] g P
    by_cases a0 : w < 0
    · refine mid_L (k := kcpu_1) ecpu_1 hG hx (xs := [cv (pvR 0), cv (oI i), cv (oI w), cv (pvR (4 + 2 * m))]) (ys := []) ⟨by show 2 ≤ _; omega, ⟨⟨pvR 0, l0, rfl, rfl, ok_0⟩, ⟨oI i, l1, rfl, rfl, ok_full32 _⟩, ⟨oI w, l2, rfl, rfl, ok_oI (by omega) (by decide) (by decide)⟩, ⟨pvR (4 + 2 * m), l3, rfl, rfl, ok_sl4 hm⟩, trivial⟩, trivial, fun c hc => absurd hc List.not_mem_nil⟩ (by omega) (fun o G1 X1 M1 P1 => ?_)
      obtain ⟨o1, o2⟩ := o
      obtain ⟨rfl, -⟩ := po_c P1
      exact hR _ G1 X1 (f_M_0 M1) (fun u v => cF_M0 M1 u v) (fun z => by have z1 := z.2; omega)
    · skip
      by_cases a1 : 7 < w
      · refine mid_L (k := kcpu_2) ecpu_2 hG hx (xs := [cv (pvR 0), cv (oI i), cv (oI w), cv (pvR (4 + 2 * m))]) (ys := []) ⟨by show 2 ≤ _; omega, ⟨⟨pvR 0, l0, rfl, rfl, ok_0⟩, ⟨oI i, l1, rfl, rfl, ok_full32 _⟩, ⟨oI w, l2, rfl, rfl, ok_oI (by omega) (by decide) (by decide)⟩, ⟨pvR (4 + 2 * m), l3, rfl, rfl, ok_sl4 hm⟩, trivial⟩, trivial, fun c hc => absurd hc List.not_mem_nil⟩ (by omega) (fun o G1 X1 M1 P1 => ?_)
        obtain ⟨o1, o2⟩ := o
        obtain ⟨rfl, -⟩ := po_c P1
        exact hR _ G1 X1 (f_M_0 M1) (fun u v => cF_M0 M1 u v) (fun z => by have z1 := z.2; omega)
      · skip
        refine mid_L (k := kcpu_a) ecpu_a hG hx (xs := [cv (pvR 0), cv (oI i), cv (oI w), cv (pvR (4 + 2 * m))]) (ys := []) ⟨by show 2 ≤ _; omega, ⟨⟨pvR 0, l0, rfl, rfl, ok_0⟩, ⟨oI i, l1, rfl, rfl, ok_full32 _⟩, ⟨oI w, l2, rfl, rfl, ok_oI (by omega) (by decide) (by decide)⟩, ⟨pvR (4 + 2 * m), l3, rfl, rfl, ok_sl4 hm⟩, trivial⟩, trivial, fun c hc => absurd hc List.not_mem_nil⟩ (by omega) (fun o G1 X1 M1 P1 => ?_)
        obtain ⟨o1, o2⟩ := o
        obtain ⟨rfl, ys, hF⟩ := po_c P1
        exact hA _ G1 X1 M1 ⟨⟨m, hm, e1, c0⟩, by omega⟩
  · show t_X d 139 8 lv [.inr (.inr none)] g P
    refine t_2 qcpu_8 rfl (w := (px_s1 lv 3 (.inr (.inr none)), [])) rfl ?_
    replace l0 : px_lg (px_s1 lv 3 (.inr (.inr none))) 0 = some (pvR 0) := s1_ne (by decide) (fun _ => rfl) l0
    replace l1 : px_lg (px_s1 lv 3 (.inr (.inr none))) 1 = some (oI (i)) := s1_ne (by decide) (fun _ => rfl) l1
    replace l2 : px_lg (px_s1 lv 3 (.inr (.inr none))) 2 = some (oI (w)) := s1_ne (by decide) (fun _ => rfl) l2
    have l3 : px_lg (px_s1 lv 3 (.inr (.inr none))) 3 = some (.inr (.inr none)) := s1_eq
    generalize px_s1 lv 3 (.inr (.inr none)) = lv2 at l0 l1 l2 l3 ⊢
    show t_X d 139 9 lv2 [] g P
    refine mid_L (k := kcpu_n) ecpu_n hG hx (xs := [cv (pvR 0), cv (oI i), cv (oI w), cv (.inr (.inr none))]) (ys := []) ⟨by show 2 ≤ _; omega, ⟨⟨pvR 0, l0, rfl, rfl, ok_0⟩, ⟨oI i, l1, rfl, rfl, ok_full32 _⟩, ⟨oI w, l2, rfl, rfl, ok_full32 _⟩, ⟨.inr (.inr none), l3, rfl, rfl, ok_nul⟩, trivial⟩, trivial, fun c hc => absurd hc List.not_mem_nil⟩ (by omega) (fun o G1 X1 M1 P1 => ?_)
    obtain ⟨o1, o2⟩ := o
    obtain ⟨rfl, -⟩ := po_c P1
    exact hR _ G1 X1 (f_M_0 M1) (fun u v => cF_M0 M1 u v) (fun z => c0 z.1)
set_option maxHeartbeats 2000000 in
theorem cda_run {d : Nat} (hd : 2 ≤ d) (hd2 : d ≤ 1000000) {g : pH} (hG : g_I eG g) (hx : xL g) (hS : rS g) {i w : Int} (hi : -2147483648 ≤ i ∧ i ≤ 2147483647) (hw : -2147483648 ≤ w ∧ w ≤ 2147483647) {P : Option pv × pH → Prop} (hA : ∀ (g1 : pH), g_I eG g1 → xL g1 → f_M kcda_a.2.2.2.1 g g1 → toC g i ∧ (0 ≤ w ∧ w ≤ 99) → P (some (oI 1), g1)) (hR : ∀ (g1 : pH), g_I eG g1 → xL g1 → f_M kcda_a.2.2.2.1 g g1 → (∀ u v, cF g1 u v = cF g u v) → ¬ (toC g i ∧ (0 ≤ w ∧ w ≤ 99)) → P (some (oI 0), g1)) {lv : List (Nat × pv)} (l0 : px_lg lv 0 = some (pvR 0)) (l1 : px_lg lv 1 = some (oI i)) (l2 : px_lg lv 2 = some (oI w)) : t_X d 116 0 lv [] g P := by
  have hJ : J_ 0 g g := J_rf hG
  have hb := cb_0_1 hG
  refine t_0 qcda_0 rfl (ld_a l0) ?_
  refine t_0 qcda_1 rfl (cr_0_2 hJ.1) ?_
  refine t_0 qcda_4 rfl (ld_i l1) ?_
  refine t_3 qcda_5 rfl (ar := ([pvR 2, oI (i)], [])) (pcal_v1 rfl rfl er_2) ⟨by omega, Nat.le_of_ble_eq_true rfl, Nat.le_of_ble_eq_true rfl, rfl⟩ ?_
  refine td_run (by omega) hJ.1 hS (by omega) (fun m hm e1 c0 => ?_) (fun c0 => ?_) rfl rfl
  · show t_X d 116 8 lv [pvR (4 + 2 * m)] g P
    refine t_2 qcda_8 rfl (w := (px_s1 lv 3 (pvR (4 + 2 * m)), [])) rfl ?_
    replace l0 : px_lg (px_s1 lv 3 (pvR (4 + 2 * m))) 0 = some (pvR 0) := s1_ne (by decide) (fun _ => rfl) l0
    replace l1 : px_lg (px_s1 lv 3 (pvR (4 + 2 * m))) 1 = some (oI (i)) := s1_ne (by decide) (fun _ => rfl) l1
    replace l2 : px_lg (px_s1 lv 3 (pvR (4 + 2 * m))) 2 = some (oI (w)) := s1_ne (by decide) (fun _ => rfl) l2
    have l3 : px_lg (px_s1 lv 3 (pvR (4 + 2 * m))) 3 = some (pvR (4 + 2 * m)) := s1_eq
    generalize px_s1 lv 3 (pvR (4 + 2 * m)) = lv1 at l0 l1 l2 l3 ⊢
    show t_X d 116 9 lv1 [] g P
    by_cases a0 : w < 0
    · refine mid_L (k := kcda_1) ecda_1 hG hx (xs := [cv (pvR 0), cv (oI i), cv (oI w), cv (pvR (4 + 2 * m))]) (ys := []) ⟨by show 2 ≤ _; omega, ⟨⟨pvR 0, l0, rfl, rfl, ok_0⟩, ⟨oI i, l1, rfl, rfl, ok_full32 _⟩, ⟨oI w, l2, rfl, rfl, ok_oI (by omega) (by decide) (by decide)⟩, ⟨pvR (4 + 2 * m), l3, rfl, rfl, ok_sl4 hm⟩, trivial⟩, trivial, fun c hc => absurd hc List.not_mem_nil⟩ (by omega) (fun o G1 X1 M1 P1 => ?_)
      obtain ⟨o1, o2⟩ := o
      obtain ⟨rfl, -⟩ := po_c P1
      exact hR _ G1 X1 (f_M_0 M1) (fun u v => cF_M0 M1 u v) (fun z => by have z1 := z.2; omega)
    · skip
      by_cases a1 : 99 < w
      · refine mid_L (k := kcda_2) ecda_2 hG hx (xs := [cv (pvR 0), cv (oI i), cv (oI w), cv (pvR (4 + 2 * m))]) (ys := []) ⟨by show 2 ≤ _; omega, ⟨⟨pvR 0, l0, rfl, rfl, ok_0⟩, ⟨oI i, l1, rfl, rfl, ok_full32 _⟩, ⟨oI w, l2, rfl, rfl, ok_oI (by omega) (by decide) (by decide)⟩, ⟨pvR (4 + 2 * m), l3, rfl, rfl, ok_sl4 hm⟩, trivial⟩, trivial, fun c hc => absurd hc List.not_mem_nil⟩ (by omega) (fun o G1 X1 M1 P1 => ?_)
        obtain ⟨o1, o2⟩ := o
        obtain ⟨rfl, -⟩ := po_c P1
        exact hR _ G1 X1 (f_M_0 M1) (fun u v => cF_M0 M1 u v) (fun z => by have z1 := z.2; omega)
      · skip
        refine mid_L (k := kcda_a) ecda_a hG hx (xs := [cv (pvR 0), cv (oI i), cv (oI w), cv (pvR (4 + 2 * m))]) (ys := []) ⟨by show 2 ≤ _; omega, ⟨⟨pvR 0, l0, rfl, rfl, ok_0⟩, ⟨oI i, l1, rfl, rfl, ok_full32 _⟩, ⟨oI w, l2, rfl, rfl, ok_oI (by omega) (by decide) (by decide)⟩, ⟨pvR (4 + 2 * m), l3, rfl, rfl, ok_sl4 hm⟩, trivial⟩, trivial, fun c hc => absurd hc List.not_mem_nil⟩ (by omega) (fun o G1 X1 M1 P1 => ?_)
        obtain ⟨o1, o2⟩ := o
        obtain ⟨rfl, ys, hF⟩ := po_c P1
        exact hA _ G1 X1 M1 ⟨⟨m, hm, e1, c0⟩, by omega⟩
  · show t_X d 116 8 lv [.inr (.inr none)] g P
    refine t_2 qcda_8 rfl (w := (px_s1 lv 3 (.inr (.inr none)), [])) rfl ?_
    replace l0 : px_lg (px_s1 lv 3 (.inr (.inr none))) 0 = some (pvR 0) := s1_ne (by decide) (fun _ => rfl) l0
    replace l1 : px_lg (px_s1 lv 3 (.inr (.inr none))) 1 = some (oI (i)) := s1_ne (by decide) (fun _ => rfl) l1
    replace l2 : px_lg (px_s1 lv 3 (.inr (.inr none))) 2 = some (oI (w)) := s1_ne (by decide) (fun _ => rfl) l2
    have l3 : px_lg (px_s1 lv 3 (.inr (.inr none))) 3 = some (.inr (.inr none)) := s1_eq
    generalize px_s1 lv 3 (.inr (.inr none)) = lv2 at l0 l1 l2 l3 ⊢
    show t_X d 116 9 lv2 [] g P
    refine mid_L (k := kcda_n) ecda_n hG hx (xs := [cv (pvR 0), cv (oI i), cv (oI w), cv (.inr (.inr none))]) (ys := []) ⟨by show 2 ≤ _; omega, ⟨⟨pvR 0, l0, rfl, rfl, ok_0⟩, ⟨oI i, l1, rfl, rfl, ok_full32 _⟩, ⟨oI w, l2, rfl, rfl, ok_full32 _⟩, ⟨.inr (.inr none), l3, rfl, rfl, ok_nul⟩, trivial⟩, trivial, fun c hc => absurd hc List.not_mem_nil⟩ (by omega) (fun o G1 X1 M1 P1 => ?_)
    obtain ⟨o1, o2⟩ := o
    obtain ⟨rfl, -⟩ := po_c P1
    exact hR _ G1 X1 (f_M_0 M1) (fun u v => cF_M0 M1 u v) (fun z => c0 z.1)
set_option maxHeartbeats 2000000 in
theorem csu_run {d : Nat} (hd : 2 ≤ d) (hd2 : d ≤ 1000000) {g : pH} (hG : g_I eG g) (hx : xL g) (hS : rS g) {i w : Int} (hi : -2147483648 ≤ i ∧ i ≤ 2147483647) (hw : -2147483648 ≤ w ∧ w ≤ 2147483647) {P : Option pv × pH → Prop} (hA : ∀ (g1 : pH), g_I eG g1 → xL g1 → f_M kcsu_a.2.2.2.1 g g1 → toC g i ∧ (0 ≤ w ∧ w ≤ 3) → P (some (oI 1), g1)) (hR : ∀ (g1 : pH), g_I eG g1 → xL g1 → f_M kcsu_a.2.2.2.1 g g1 → (∀ u v, cF g1 u v = cF g u v) → ¬ (toC g i ∧ (0 ≤ w ∧ w ≤ 3)) → P (some (oI 0), g1)) {lv : List (Nat × pv)} (l0 : px_lg lv 0 = some (pvR 0)) (l1 : px_lg lv 1 = some (oI i)) (l2 : px_lg lv 2 = some (oI w)) : t_X d 150 0 lv [] g P := by
  have hJ : J_ 0 g g := J_rf hG
  have hb := cb_0_1 hG
  refine t_0 qcsu_0 rfl (ld_a l0) ?_
  refine t_0 qcsu_1 rfl (cr_0_2 hJ.1) ?_
  refine t_0 qcsu_4 rfl (ld_i l1) ?_
  refine t_3 qcsu_5 rfl (ar := ([pvR 2, oI (i)], [])) (pcal_v1 rfl rfl er_2) ⟨by omega, Nat.le_of_ble_eq_true rfl, Nat.le_of_ble_eq_true rfl, rfl⟩ ?_
  refine td_run (by omega) hJ.1 hS (by omega) (fun m hm e1 c0 => ?_) (fun c0 => ?_) rfl rfl
  · show t_X d 150 8 lv [pvR (4 + 2 * m)] g P
    refine t_2 qcsu_8 rfl (w := (px_s1 lv 3 (pvR (4 + 2 * m)), [])) rfl ?_
    replace l0 : px_lg (px_s1 lv 3 (pvR (4 + 2 * m))) 0 = some (pvR 0) := s1_ne (by decide) (fun _ => rfl) l0
    replace l1 : px_lg (px_s1 lv 3 (pvR (4 + 2 * m))) 1 = some (oI (i)) := s1_ne (by decide) (fun _ => rfl) l1
    replace l2 : px_lg (px_s1 lv 3 (pvR (4 + 2 * m))) 2 = some (oI (w)) := s1_ne (by decide) (fun _ => rfl) l2
    have l3 : px_lg (px_s1 lv 3 (pvR (4 + 2 * m))) 3 = some (pvR (4 + 2 * m)) := s1_eq
    generalize px_s1 lv 3 (pvR (4 + 2 * m)) = lv1 at l0 l1 l2 l3 ⊢
    show t_X d 150 9 lv1 [] g P
    by_cases a0 : w < 0
    · refine mid_L (k := kcsu_1) ecsu_1 hG hx (xs := [cv (pvR 0), cv (oI i), cv (oI w), cv (pvR (4 + 2 * m))]) (ys := []) ⟨by show 2 ≤ _; omega, ⟨⟨pvR 0, l0, rfl, rfl, ok_0⟩, ⟨oI i, l1, rfl, rfl, ok_full32 _⟩, ⟨oI w, l2, rfl, rfl, ok_oI (by omega) (by decide) (by decide)⟩, ⟨pvR (4 + 2 * m), l3, rfl, rfl, ok_sl4 hm⟩, trivial⟩, trivial, fun c hc => absurd hc List.not_mem_nil⟩ (by omega) (fun o G1 X1 M1 P1 => ?_)
      obtain ⟨o1, o2⟩ := o
      obtain ⟨rfl, -⟩ := po_c P1
      exact hR _ G1 X1 (f_M_0 M1) (fun u v => cF_M0 M1 u v) (fun z => by have z1 := z.2; omega)
    · skip
      by_cases a1 : 3 < w
      · refine mid_L (k := kcsu_2) ecsu_2 hG hx (xs := [cv (pvR 0), cv (oI i), cv (oI w), cv (pvR (4 + 2 * m))]) (ys := []) ⟨by show 2 ≤ _; omega, ⟨⟨pvR 0, l0, rfl, rfl, ok_0⟩, ⟨oI i, l1, rfl, rfl, ok_full32 _⟩, ⟨oI w, l2, rfl, rfl, ok_oI (by omega) (by decide) (by decide)⟩, ⟨pvR (4 + 2 * m), l3, rfl, rfl, ok_sl4 hm⟩, trivial⟩, trivial, fun c hc => absurd hc List.not_mem_nil⟩ (by omega) (fun o G1 X1 M1 P1 => ?_)
        obtain ⟨o1, o2⟩ := o
        obtain ⟨rfl, -⟩ := po_c P1
        exact hR _ G1 X1 (f_M_0 M1) (fun u v => cF_M0 M1 u v) (fun z => by have z1 := z.2; omega)
      · skip
        refine mid_L (k := kcsu_a) ecsu_a hG hx (xs := [cv (pvR 0), cv (oI i), cv (oI w), cv (pvR (4 + 2 * m))]) (ys := []) ⟨by show 2 ≤ _; omega, ⟨⟨pvR 0, l0, rfl, rfl, ok_0⟩, ⟨oI i, l1, rfl, rfl, ok_full32 _⟩, ⟨oI w, l2, rfl, rfl, ok_oI (by omega) (by decide) (by decide)⟩, ⟨pvR (4 + 2 * m), l3, rfl, rfl, ok_sl4 hm⟩, trivial⟩, trivial, fun c hc => absurd hc List.not_mem_nil⟩ (by omega) (fun o G1 X1 M1 P1 => ?_)
        obtain ⟨o1, o2⟩ := o
        obtain ⟨rfl, ys, hF⟩ := po_c P1
        exact hA _ G1 X1 M1 ⟨⟨m, hm, e1, c0⟩, by omega⟩
  · show t_X d 150 8 lv [.inr (.inr none)] g P
    refine t_2 qcsu_8 rfl (w := (px_s1 lv 3 (.inr (.inr none)), [])) rfl ?_
    replace l0 : px_lg (px_s1 lv 3 (.inr (.inr none))) 0 = some (pvR 0) := s1_ne (by decide) (fun _ => rfl) l0
    replace l1 : px_lg (px_s1 lv 3 (.inr (.inr none))) 1 = some (oI (i)) := s1_ne (by decide) (fun _ => rfl) l1
    replace l2 : px_lg (px_s1 lv 3 (.inr (.inr none))) 2 = some (oI (w)) := s1_ne (by decide) (fun _ => rfl) l2
    have l3 : px_lg (px_s1 lv 3 (.inr (.inr none))) 3 = some (.inr (.inr none)) := s1_eq
    generalize px_s1 lv 3 (.inr (.inr none)) = lv2 at l0 l1 l2 l3 ⊢
    show t_X d 150 9 lv2 [] g P
    refine mid_L (k := kcsu_n) ecsu_n hG hx (xs := [cv (pvR 0), cv (oI i), cv (oI w), cv (.inr (.inr none))]) (ys := []) ⟨by show 2 ≤ _; omega, ⟨⟨pvR 0, l0, rfl, rfl, ok_0⟩, ⟨oI i, l1, rfl, rfl, ok_full32 _⟩, ⟨oI w, l2, rfl, rfl, ok_full32 _⟩, ⟨.inr (.inr none), l3, rfl, rfl, ok_nul⟩, trivial⟩, trivial, fun c hc => absurd hc List.not_mem_nil⟩ (by omega) (fun o G1 X1 M1 P1 => ?_)
    obtain ⟨o1, o2⟩ := o
    obtain ⟨rfl, -⟩ := po_c P1
    exact hR _ G1 X1 (f_M_0 M1) (fun u v => cF_M0 M1 u v) (fun z => c0 z.1)
set_option maxHeartbeats 2000000 in
theorem cod_run {d : Nat} (hd : 4 ≤ d) (hd2 : d ≤ 1000000) {g : pH} (hG : g_I eG g) (hx : xL g) (hS : rS g) {i w n q : Int} (hi : -2147483648 ≤ i ∧ i ≤ 2147483647) (hw : -2147483648 ≤ w ∧ w ≤ 2147483647) (hn : -2147483648 ≤ n ∧ n ≤ 2147483647) (hq : -2147483648 ≤ q ∧ q ≤ 2147483647) {P : Option pv × pH → Prop} (hA : ∀ (v : Int32) (g1 : pH), g_I eG g1 → xL g1 → f_M kcod_a.2.2.2.1 g g1 → cF g1 0 1 = 0 → toC g i ∧ (0 ≤ w ∧ w ≤ 7) ∧ (0 ≤ n ∧ n ≤ 8) ∧ (0 ≤ q ∧ q ≤ 1) ∧ 3 * n ≤ cF g 0 1 → P (some (.inl v), g1)) (hR : ∀ (g1 : pH), g_I eG g1 → xL g1 → f_M kcod_a.2.2.2.1 g g1 → (∀ u v, cF g1 u v = cF g u v) → ¬ (toC g i ∧ (0 ≤ w ∧ w ≤ 7) ∧ (0 ≤ n ∧ n ≤ 8) ∧ (0 ≤ q ∧ q ≤ 1) ∧ 3 * n ≤ cF g 0 1) → P (some (oI (-1)), g1)) {lv : List (Nat × pv)} (l0 : px_lg lv 0 = some (pvR 0)) (l1 : px_lg lv 1 = some (oI i)) (l2 : px_lg lv 2 = some (oI w)) (l3 : px_lg lv 3 = some (oI n)) (l4 : px_lg lv 4 = some (oI q)) : t_X d 137 0 lv [] g P := by
  have hJ : J_ 0 g g := J_rf hG
  have hb := cb_0_1 hG
  refine t_0 qcod_0 rfl (ld_a l0) ?_
  refine t_0 qcod_1 rfl (cr_0_2 hJ.1) ?_
  refine t_0 qcod_4 rfl (ld_i l1) ?_
  refine t_3 qcod_5 rfl (ar := ([pvR 2, oI (i)], [])) (pcal_v1 rfl rfl er_2) ⟨by omega, Nat.le_of_ble_eq_true rfl, Nat.le_of_ble_eq_true rfl, rfl⟩ ?_
  refine td_run (by omega) hJ.1 hS (by omega) (fun m hm e1 c0 => ?_) (fun c0 => ?_) rfl rfl
  · show t_X d 137 8 lv [pvR (4 + 2 * m)] g P
    refine t_2 qcod_8 rfl (w := (px_s1 lv 5 (pvR (4 + 2 * m)), [])) rfl ?_
    replace l0 : px_lg (px_s1 lv 5 (pvR (4 + 2 * m))) 0 = some (pvR 0) := s1_ne (by decide) (fun _ => rfl) l0
    replace l1 : px_lg (px_s1 lv 5 (pvR (4 + 2 * m))) 1 = some (oI (i)) := s1_ne (by decide) (fun _ => rfl) l1
    replace l2 : px_lg (px_s1 lv 5 (pvR (4 + 2 * m))) 2 = some (oI (w)) := s1_ne (by decide) (fun _ => rfl) l2
    replace l3 : px_lg (px_s1 lv 5 (pvR (4 + 2 * m))) 3 = some (oI (n)) := s1_ne (by decide) (fun _ => rfl) l3
    replace l4 : px_lg (px_s1 lv 5 (pvR (4 + 2 * m))) 4 = some (oI (q)) := s1_ne (by decide) (fun _ => rfl) l4
    have l5 : px_lg (px_s1 lv 5 (pvR (4 + 2 * m))) 5 = some (pvR (4 + 2 * m)) := s1_eq
    generalize px_s1 lv 5 (pvR (4 + 2 * m)) = lv1 at l0 l1 l2 l3 l4 l5 ⊢
    show t_X d 137 10 lv1 [] g P
    by_cases a0 : w < 0
    · refine mid_L (k := kcod_1) ecod_1 hG hx (xs := [cv (pvR 0), cv (oI i), cv (oI w), cv (oI n), cv (oI q), cv (pvR (4 + 2 * m))]) (ys := []) ⟨by show 4 ≤ _; omega, ⟨⟨pvR 0, l0, rfl, rfl, ok_0⟩, ⟨oI i, l1, rfl, rfl, ok_full32 _⟩, ⟨oI w, l2, rfl, rfl, ok_oI (by omega) (by decide) (by decide)⟩, ⟨oI n, l3, rfl, rfl, ok_full32 _⟩, ⟨oI q, l4, rfl, rfl, ok_full32 _⟩, ⟨pvR (4 + 2 * m), l5, rfl, rfl, ok_sl4 hm⟩, trivial⟩, trivial, fun c hc => absurd hc List.not_mem_nil⟩ (by omega) (fun o G1 X1 M1 P1 => ?_)
      obtain ⟨o1, o2⟩ := o
      obtain ⟨rfl, -⟩ := po_c P1
      exact hR _ G1 X1 (f_M_0 M1) (fun u v => cF_M0 M1 u v) (fun z => by have z1 := z.2; omega)
    · skip
      by_cases a1 : 7 < w
      · refine mid_L (k := kcod_2) ecod_2 hG hx (xs := [cv (pvR 0), cv (oI i), cv (oI w), cv (oI n), cv (oI q), cv (pvR (4 + 2 * m))]) (ys := []) ⟨by show 4 ≤ _; omega, ⟨⟨pvR 0, l0, rfl, rfl, ok_0⟩, ⟨oI i, l1, rfl, rfl, ok_full32 _⟩, ⟨oI w, l2, rfl, rfl, ok_oI (by omega) (by decide) (by decide)⟩, ⟨oI n, l3, rfl, rfl, ok_full32 _⟩, ⟨oI q, l4, rfl, rfl, ok_full32 _⟩, ⟨pvR (4 + 2 * m), l5, rfl, rfl, ok_sl4 hm⟩, trivial⟩, trivial, fun c hc => absurd hc List.not_mem_nil⟩ (by omega) (fun o G1 X1 M1 P1 => ?_)
        obtain ⟨o1, o2⟩ := o
        obtain ⟨rfl, -⟩ := po_c P1
        exact hR _ G1 X1 (f_M_0 M1) (fun u v => cF_M0 M1 u v) (fun z => by have z1 := z.2; omega)
      · skip
        by_cases a2 : n < 0
        · refine mid_L (k := kcod_3) ecod_3 hG hx (xs := [cv (pvR 0), cv (oI i), cv (oI w), cv (oI n), cv (oI q), cv (pvR (4 + 2 * m))]) (ys := []) ⟨by show 4 ≤ _; omega, ⟨⟨pvR 0, l0, rfl, rfl, ok_0⟩, ⟨oI i, l1, rfl, rfl, ok_full32 _⟩, ⟨oI w, l2, rfl, rfl, ok_full32 _⟩, ⟨oI n, l3, rfl, rfl, ok_oI (by omega) (by decide) (by decide)⟩, ⟨oI q, l4, rfl, rfl, ok_full32 _⟩, ⟨pvR (4 + 2 * m), l5, rfl, rfl, ok_sl4 hm⟩, trivial⟩, trivial, fun c hc => absurd hc List.not_mem_nil⟩ (by omega) (fun o G1 X1 M1 P1 => ?_)
          obtain ⟨o1, o2⟩ := o
          obtain ⟨rfl, -⟩ := po_c P1
          exact hR _ G1 X1 (f_M_0 M1) (fun u v => cF_M0 M1 u v) (fun z => by have z1 := z.2; omega)
        · skip
          by_cases a3 : 8 < n
          · refine mid_L (k := kcod_4) ecod_4 hG hx (xs := [cv (pvR 0), cv (oI i), cv (oI w), cv (oI n), cv (oI q), cv (pvR (4 + 2 * m))]) (ys := []) ⟨by show 4 ≤ _; omega, ⟨⟨pvR 0, l0, rfl, rfl, ok_0⟩, ⟨oI i, l1, rfl, rfl, ok_full32 _⟩, ⟨oI w, l2, rfl, rfl, ok_full32 _⟩, ⟨oI n, l3, rfl, rfl, ok_oI (by omega) (by decide) (by decide)⟩, ⟨oI q, l4, rfl, rfl, ok_full32 _⟩, ⟨pvR (4 + 2 * m), l5, rfl, rfl, ok_sl4 hm⟩, trivial⟩, trivial, fun c hc => absurd hc List.not_mem_nil⟩ (by omega) (fun o G1 X1 M1 P1 => ?_)
            obtain ⟨o1, o2⟩ := o
            obtain ⟨rfl, -⟩ := po_c P1
            exact hR _ G1 X1 (f_M_0 M1) (fun u v => cF_M0 M1 u v) (fun z => by have z1 := z.2; omega)
          · skip
            by_cases a4 : q < 0
            · refine mid_L (k := kcod_5) ecod_5 hG hx (xs := [cv (pvR 0), cv (oI i), cv (oI w), cv (oI n), cv (oI q), cv (pvR (4 + 2 * m))]) (ys := []) ⟨by show 4 ≤ _; omega, ⟨⟨pvR 0, l0, rfl, rfl, ok_0⟩, ⟨oI i, l1, rfl, rfl, ok_full32 _⟩, ⟨oI w, l2, rfl, rfl, ok_full32 _⟩, ⟨oI n, l3, rfl, rfl, ok_full32 _⟩, ⟨oI q, l4, rfl, rfl, ok_oI (by omega) (by decide) (by decide)⟩, ⟨pvR (4 + 2 * m), l5, rfl, rfl, ok_sl4 hm⟩, trivial⟩, trivial, fun c hc => absurd hc List.not_mem_nil⟩ (by omega) (fun o G1 X1 M1 P1 => ?_)
              obtain ⟨o1, o2⟩ := o
              obtain ⟨rfl, -⟩ := po_c P1
              exact hR _ G1 X1 (f_M_0 M1) (fun u v => cF_M0 M1 u v) (fun z => by have z1 := z.2; omega)
            · skip
              by_cases a5 : 1 < q
              · refine mid_L (k := kcod_6) ecod_6 hG hx (xs := [cv (pvR 0), cv (oI i), cv (oI w), cv (oI n), cv (oI q), cv (pvR (4 + 2 * m))]) (ys := []) ⟨by show 4 ≤ _; omega, ⟨⟨pvR 0, l0, rfl, rfl, ok_0⟩, ⟨oI i, l1, rfl, rfl, ok_full32 _⟩, ⟨oI w, l2, rfl, rfl, ok_full32 _⟩, ⟨oI n, l3, rfl, rfl, ok_full32 _⟩, ⟨oI q, l4, rfl, rfl, ok_oI (by omega) (by decide) (by decide)⟩, ⟨pvR (4 + 2 * m), l5, rfl, rfl, ok_sl4 hm⟩, trivial⟩, trivial, fun c hc => absurd hc List.not_mem_nil⟩ (by omega) (fun o G1 X1 M1 P1 => ?_)
                obtain ⟨o1, o2⟩ := o
                obtain ⟨rfl, -⟩ := po_c P1
                exact hR _ G1 X1 (f_M_0 M1) (fun u v => cF_M0 M1 u v) (fun z => by have z1 := z.2; omega)
              · skip
                by_cases a6 : cF g 0 1 < 3 * n
                · refine mid_L (k := kcod_7) ecod_7 hG hx (xs := [cv (pvR 0), cv (oI i), cv (oI w), cv (oI n), cv (oI q), cv (pvR (4 + 2 * m))]) (ys := [cF g 0 1]) ⟨by show 4 ≤ _; omega, ⟨⟨pvR 0, l0, rfl, rfl, ok_0⟩, ⟨oI i, l1, rfl, rfl, ok_full32 _⟩, ⟨oI w, l2, rfl, rfl, ok_oI (by omega) (by decide) (by decide)⟩, ⟨oI n, l3, rfl, rfl, ok_oI (by omega) (by decide) (by decide)⟩, ⟨oI q, l4, rfl, rfl, ok_oI (by omega) (by decide) (by decide)⟩, ⟨pvR (4 + 2 * m), l5, rfl, rfl, ok_sl4 hm⟩, trivial⟩, ⟨⟨.inl (g.1 0 1), hc_i er_0 (Nat.le_of_ble_eq_true rfl) rfl, rfl, rfl, ⟨hb.1, hb.2, Or.inl rfl⟩⟩, trivial⟩, fun c hc => by obtain rfl := List.mem_singleton.mp hc; exact ⟨_, ⟨_, rfl, rfl⟩, by show (1 : Int) + ((-3) * cv (oI n) + (1 * cF g 0 1 + 0)) ≤ 0; rw [cv_oI (a := n) (by omega)]; omega⟩⟩ (by omega) (fun o G1 X1 M1 P1 => ?_)
                  obtain ⟨o1, o2⟩ := o
                  obtain ⟨rfl, -⟩ := po_c P1
                  exact hR _ G1 X1 (f_M_0 M1) (fun u v => cF_M0 M1 u v) (fun z => by have z1 := z.2; omega)
                · skip
                  refine mid_L (k := kcod_a) ecod_a hG hx (xs := [cv (pvR 0), cv (oI i), cv (oI w), cv (oI n), cv (oI q), cv (pvR (4 + 2 * m))]) (ys := [cF g 0 1]) ⟨by show 4 ≤ _; omega, ⟨⟨pvR 0, l0, rfl, rfl, ok_0⟩, ⟨oI i, l1, rfl, rfl, ok_full32 _⟩, ⟨oI w, l2, rfl, rfl, ok_oI (by omega) (by decide) (by decide)⟩, ⟨oI n, l3, rfl, rfl, ok_oI (by omega) (by decide) (by decide)⟩, ⟨oI q, l4, rfl, rfl, ok_oI (by omega) (by decide) (by decide)⟩, ⟨pvR (4 + 2 * m), l5, rfl, rfl, ok_sl4 hm⟩, trivial⟩, ⟨⟨.inl (g.1 0 1), hc_i er_0 (Nat.le_of_ble_eq_true rfl) rfl, rfl, rfl, ⟨hb.1, hb.2, Or.inl rfl⟩⟩, trivial⟩, fun c hc => by obtain rfl := List.mem_singleton.mp hc; exact ⟨_, ⟨_, rfl, rfl⟩, by show (0 : Int) + (3 * cv (oI n) + ((-1) * cF g 0 1 + 0)) ≤ 0; rw [cv_oI (a := n) (by omega)]; omega⟩⟩ (by omega) (fun o G1 X1 M1 P1 => ?_)
                  obtain ⟨o1, o2⟩ := o
                  obtain ⟨z, rfl, hz, ys, hF⟩ := po_i P1
                  exact hA _ _ G1 X1 M1 (fa_i er_0 (Nat.le_of_ble_eq_true rfl) rfl hF) ⟨⟨m, hm, e1, c0⟩, by omega⟩
  · show t_X d 137 8 lv [.inr (.inr none)] g P
    refine t_2 qcod_8 rfl (w := (px_s1 lv 5 (.inr (.inr none)), [])) rfl ?_
    replace l0 : px_lg (px_s1 lv 5 (.inr (.inr none))) 0 = some (pvR 0) := s1_ne (by decide) (fun _ => rfl) l0
    replace l1 : px_lg (px_s1 lv 5 (.inr (.inr none))) 1 = some (oI (i)) := s1_ne (by decide) (fun _ => rfl) l1
    replace l2 : px_lg (px_s1 lv 5 (.inr (.inr none))) 2 = some (oI (w)) := s1_ne (by decide) (fun _ => rfl) l2
    replace l3 : px_lg (px_s1 lv 5 (.inr (.inr none))) 3 = some (oI (n)) := s1_ne (by decide) (fun _ => rfl) l3
    replace l4 : px_lg (px_s1 lv 5 (.inr (.inr none))) 4 = some (oI (q)) := s1_ne (by decide) (fun _ => rfl) l4
    have l5 : px_lg (px_s1 lv 5 (.inr (.inr none))) 5 = some (.inr (.inr none)) := s1_eq
    generalize px_s1 lv 5 (.inr (.inr none)) = lv2 at l0 l1 l2 l3 l4 l5 ⊢
    show t_X d 137 10 lv2 [] g P
    refine mid_L (k := kcod_n) ecod_n hG hx (xs := [cv (pvR 0), cv (oI i), cv (oI w), cv (oI n), cv (oI q), cv (.inr (.inr none))]) (ys := []) ⟨by show 4 ≤ _; omega, ⟨⟨pvR 0, l0, rfl, rfl, ok_0⟩, ⟨oI i, l1, rfl, rfl, ok_full32 _⟩, ⟨oI w, l2, rfl, rfl, ok_full32 _⟩, ⟨oI n, l3, rfl, rfl, ok_full32 _⟩, ⟨oI q, l4, rfl, rfl, ok_full32 _⟩, ⟨.inr (.inr none), l5, rfl, rfl, ok_nul⟩, trivial⟩, trivial, fun c hc => absurd hc List.not_mem_nil⟩ (by omega) (fun o G1 X1 M1 P1 => ?_)
    obtain ⟨o1, o2⟩ := o
    obtain ⟨rfl, -⟩ := po_c P1
    exact hR _ G1 X1 (f_M_0 M1) (fun u v => cF_M0 M1 u v) (fun z => c0 z.1)
set_option maxHeartbeats 2000000 in
theorem cch_run {d : Nat} (hd : 2 ≤ d) (hd2 : d ≤ 1000000) {g : pH} (hG : g_I eG g) (hx : xL g) (hS : rS g) {i n : Int} (hi : -2147483648 ≤ i ∧ i ≤ 2147483647) (hn : -2147483648 ≤ n ∧ n ≤ 2147483647) {P : Option pv × pH → Prop} (hA : ∀ (v : Int32) (g1 : pH), g_I eG g1 → xL g1 → f_M kcch_a.2.2.2.1 g g1 → cF g1 0 1 = 0 → toC g i ∧ (0 ≤ n ∧ n ≤ 25) ∧ n ≤ cF g 0 1 → P (some (.inl v), g1)) (hR : ∀ (g1 : pH), g_I eG g1 → xL g1 → f_M kcch_a.2.2.2.1 g g1 → (∀ u v, cF g1 u v = cF g u v) → ¬ (toC g i ∧ (0 ≤ n ∧ n ≤ 25) ∧ n ≤ cF g 0 1) → P (some (oI (-2)), g1)) {lv : List (Nat × pv)} (l0 : px_lg lv 0 = some (pvR 0)) (l1 : px_lg lv 1 = some (oI i)) (l2 : px_lg lv 2 = some (oI n)) : t_X d 110 0 lv [] g P := by
  have hJ : J_ 0 g g := J_rf hG
  have hb := cb_0_1 hG
  refine t_0 qcch_0 rfl (ld_a l0) ?_
  refine t_0 qcch_1 rfl (cr_0_2 hJ.1) ?_
  refine t_0 qcch_4 rfl (ld_i l1) ?_
  refine t_3 qcch_5 rfl (ar := ([pvR 2, oI (i)], [])) (pcal_v1 rfl rfl er_2) ⟨by omega, Nat.le_of_ble_eq_true rfl, Nat.le_of_ble_eq_true rfl, rfl⟩ ?_
  refine td_run (by omega) hJ.1 hS (by omega) (fun m hm e1 c0 => ?_) (fun c0 => ?_) rfl rfl
  · show t_X d 110 8 lv [pvR (4 + 2 * m)] g P
    refine t_2 qcch_8 rfl (w := (px_s1 lv 3 (pvR (4 + 2 * m)), [])) rfl ?_
    replace l0 : px_lg (px_s1 lv 3 (pvR (4 + 2 * m))) 0 = some (pvR 0) := s1_ne (by decide) (fun _ => rfl) l0
    replace l1 : px_lg (px_s1 lv 3 (pvR (4 + 2 * m))) 1 = some (oI (i)) := s1_ne (by decide) (fun _ => rfl) l1
    replace l2 : px_lg (px_s1 lv 3 (pvR (4 + 2 * m))) 2 = some (oI (n)) := s1_ne (by decide) (fun _ => rfl) l2
    have l3 : px_lg (px_s1 lv 3 (pvR (4 + 2 * m))) 3 = some (pvR (4 + 2 * m)) := s1_eq
    generalize px_s1 lv 3 (pvR (4 + 2 * m)) = lv1 at l0 l1 l2 l3 ⊢
    show t_X d 110 9 lv1 [] g P
    by_cases a0 : n < 0
    · refine mid_L (k := kcch_1) ecch_1 hG hx (xs := [cv (pvR 0), cv (oI i), cv (oI n), cv (pvR (4 + 2 * m))]) (ys := []) ⟨by show 2 ≤ _; omega, ⟨⟨pvR 0, l0, rfl, rfl, ok_0⟩, ⟨oI i, l1, rfl, rfl, ok_full32 _⟩, ⟨oI n, l2, rfl, rfl, ok_oI (by omega) (by decide) (by decide)⟩, ⟨pvR (4 + 2 * m), l3, rfl, rfl, ok_sl4 hm⟩, trivial⟩, trivial, fun c hc => absurd hc List.not_mem_nil⟩ (by omega) (fun o G1 X1 M1 P1 => ?_)
      obtain ⟨o1, o2⟩ := o
      obtain ⟨rfl, -⟩ := po_c P1
      exact hR _ G1 X1 (f_M_0 M1) (fun u v => cF_M0 M1 u v) (fun z => by have z1 := z.2; omega)
    · skip
      by_cases a1 : 25 < n
      · refine mid_L (k := kcch_2) ecch_2 hG hx (xs := [cv (pvR 0), cv (oI i), cv (oI n), cv (pvR (4 + 2 * m))]) (ys := []) ⟨by show 2 ≤ _; omega, ⟨⟨pvR 0, l0, rfl, rfl, ok_0⟩, ⟨oI i, l1, rfl, rfl, ok_full32 _⟩, ⟨oI n, l2, rfl, rfl, ok_oI (by omega) (by decide) (by decide)⟩, ⟨pvR (4 + 2 * m), l3, rfl, rfl, ok_sl4 hm⟩, trivial⟩, trivial, fun c hc => absurd hc List.not_mem_nil⟩ (by omega) (fun o G1 X1 M1 P1 => ?_)
        obtain ⟨o1, o2⟩ := o
        obtain ⟨rfl, -⟩ := po_c P1
        exact hR _ G1 X1 (f_M_0 M1) (fun u v => cF_M0 M1 u v) (fun z => by have z1 := z.2; omega)
      · skip
        by_cases a2 : cF g 0 1 < n
        · refine mid_L (k := kcch_3) ecch_3 hG hx (xs := [cv (pvR 0), cv (oI i), cv (oI n), cv (pvR (4 + 2 * m))]) (ys := [cF g 0 1]) ⟨by show 2 ≤ _; omega, ⟨⟨pvR 0, l0, rfl, rfl, ok_0⟩, ⟨oI i, l1, rfl, rfl, ok_full32 _⟩, ⟨oI n, l2, rfl, rfl, ok_oI (by omega) (by decide) (by decide)⟩, ⟨pvR (4 + 2 * m), l3, rfl, rfl, ok_sl4 hm⟩, trivial⟩, ⟨⟨.inl (g.1 0 1), hc_i er_0 (Nat.le_of_ble_eq_true rfl) rfl, rfl, rfl, ⟨hb.1, hb.2, Or.inl rfl⟩⟩, trivial⟩, fun c hc => by obtain rfl := List.mem_singleton.mp hc; exact ⟨_, ⟨_, rfl, rfl⟩, by show (1 : Int) + ((-1) * cv (oI n) + (1 * cF g 0 1 + 0)) ≤ 0; rw [cv_oI (a := n) (by omega)]; omega⟩⟩ (by omega) (fun o G1 X1 M1 P1 => ?_)
          obtain ⟨o1, o2⟩ := o
          obtain ⟨rfl, -⟩ := po_c P1
          exact hR _ G1 X1 (f_M_0 M1) (fun u v => cF_M0 M1 u v) (fun z => by have z1 := z.2; omega)
        · skip
          refine mid_L (k := kcch_a) ecch_a hG hx (xs := [cv (pvR 0), cv (oI i), cv (oI n), cv (pvR (4 + 2 * m))]) (ys := [cF g 0 1]) ⟨by show 2 ≤ _; omega, ⟨⟨pvR 0, l0, rfl, rfl, ok_0⟩, ⟨oI i, l1, rfl, rfl, ok_full32 _⟩, ⟨oI n, l2, rfl, rfl, ok_oI (by omega) (by decide) (by decide)⟩, ⟨pvR (4 + 2 * m), l3, rfl, rfl, ok_sl4 hm⟩, trivial⟩, ⟨⟨.inl (g.1 0 1), hc_i er_0 (Nat.le_of_ble_eq_true rfl) rfl, rfl, rfl, ⟨hb.1, hb.2, Or.inl rfl⟩⟩, trivial⟩, fun c hc => by obtain rfl := List.mem_singleton.mp hc; exact ⟨_, ⟨_, rfl, rfl⟩, by show (0 : Int) + (1 * cv (oI n) + ((-1) * cF g 0 1 + 0)) ≤ 0; rw [cv_oI (a := n) (by omega)]; omega⟩⟩ (by omega) (fun o G1 X1 M1 P1 => ?_)
          obtain ⟨o1, o2⟩ := o
          obtain ⟨z, rfl, hz, ys, hF⟩ := po_i P1
          exact hA _ _ G1 X1 M1 (fa_i er_0 (Nat.le_of_ble_eq_true rfl) rfl hF) ⟨⟨m, hm, e1, c0⟩, by omega⟩
  · show t_X d 110 8 lv [.inr (.inr none)] g P
    refine t_2 qcch_8 rfl (w := (px_s1 lv 3 (.inr (.inr none)), [])) rfl ?_
    replace l0 : px_lg (px_s1 lv 3 (.inr (.inr none))) 0 = some (pvR 0) := s1_ne (by decide) (fun _ => rfl) l0
    replace l1 : px_lg (px_s1 lv 3 (.inr (.inr none))) 1 = some (oI (i)) := s1_ne (by decide) (fun _ => rfl) l1
    replace l2 : px_lg (px_s1 lv 3 (.inr (.inr none))) 2 = some (oI (n)) := s1_ne (by decide) (fun _ => rfl) l2
    have l3 : px_lg (px_s1 lv 3 (.inr (.inr none))) 3 = some (.inr (.inr none)) := s1_eq
    generalize px_s1 lv 3 (.inr (.inr none)) = lv2 at l0 l1 l2 l3 ⊢
    show t_X d 110 9 lv2 [] g P
    refine mid_L (k := kcch_n) ecch_n hG hx (xs := [cv (pvR 0), cv (oI i), cv (oI n), cv (.inr (.inr none))]) (ys := []) ⟨by show 2 ≤ _; omega, ⟨⟨pvR 0, l0, rfl, rfl, ok_0⟩, ⟨oI i, l1, rfl, rfl, ok_full32 _⟩, ⟨oI n, l2, rfl, rfl, ok_full32 _⟩, ⟨.inr (.inr none), l3, rfl, rfl, ok_nul⟩, trivial⟩, trivial, fun c hc => absurd hc List.not_mem_nil⟩ (by omega) (fun o G1 X1 M1 P1 => ?_)
    obtain ⟨o1, o2⟩ := o
    obtain ⟨rfl, -⟩ := po_c P1
    exact hR _ G1 X1 (f_M_0 M1) (fun u v => cF_M0 M1 u v) (fun z => c0 z.1)
set_option maxHeartbeats 2000000 in
theorem cty_run {d : Nat} (hd : 18 ≤ d) (hd2 : d ≤ 1000000) {g : pH} (hG : g_I eG g) (hx : xL g) {n : Int} (hn : -2147483648 ≤ n ∧ n ≤ 2147483647) {P : Option pv × pH → Prop} (hA : ∀ (v : Int32) (g1 : pH), g_I eG g1 → xL g1 → f_M kcty_a.2.2.2.1 g g1 → cF g1 0 1 = 0 → (1 ≤ n ∧ n ≤ 120) ∧ n ≤ cF g 0 1 → P (some (.inl v), g1)) (hR : ∀ (g1 : pH), g_I eG g1 → xL g1 → f_M kcty_a.2.2.2.1 g g1 → (∀ u v, cF g1 u v = cF g u v) → ¬ ((1 ≤ n ∧ n ≤ 120) ∧ n ≤ cF g 0 1) → P (some (oI (-1)), g1)) {lv : List (Nat × pv)} (l0 : px_lg lv 0 = some (pvR 0)) (l1 : px_lg lv 1 = some (oI n)) : t_X d 157 0 lv [] g P := by
  have hJ : J_ 0 g g := J_rf hG
  have hb := cb_0_1 hG
  by_cases a0 : n < 1
  · refine mid_L (k := kcty_1) ecty_1 hG hx (xs := [cv (pvR 0), cv (oI n)]) (ys := []) ⟨by show 18 ≤ _; omega, ⟨⟨pvR 0, l0, rfl, rfl, ok_0⟩, ⟨oI n, l1, rfl, rfl, ok_oI (by omega) (by decide) (by decide)⟩, trivial⟩, trivial, fun c hc => absurd hc List.not_mem_nil⟩ (by omega) (fun o G1 X1 M1 P1 => ?_)
    obtain ⟨o1, o2⟩ := o
    obtain ⟨rfl, -⟩ := po_c P1
    exact hR _ G1 X1 (f_M_0 M1) (fun u v => cF_M0 M1 u v) (fun z => by omega)
  · skip
    by_cases a1 : 120 < n
    · refine mid_L (k := kcty_2) ecty_2 hG hx (xs := [cv (pvR 0), cv (oI n)]) (ys := []) ⟨by show 18 ≤ _; omega, ⟨⟨pvR 0, l0, rfl, rfl, ok_0⟩, ⟨oI n, l1, rfl, rfl, ok_oI (by omega) (by decide) (by decide)⟩, trivial⟩, trivial, fun c hc => absurd hc List.not_mem_nil⟩ (by omega) (fun o G1 X1 M1 P1 => ?_)
      obtain ⟨o1, o2⟩ := o
      obtain ⟨rfl, -⟩ := po_c P1
      exact hR _ G1 X1 (f_M_0 M1) (fun u v => cF_M0 M1 u v) (fun z => by omega)
    · skip
      by_cases a2 : cF g 0 1 < n
      · refine mid_L (k := kcty_3) ecty_3 hG hx (xs := [cv (pvR 0), cv (oI n)]) (ys := [cF g 0 1]) ⟨by show 18 ≤ _; omega, ⟨⟨pvR 0, l0, rfl, rfl, ok_0⟩, ⟨oI n, l1, rfl, rfl, ok_oI (by omega) (by decide) (by decide)⟩, trivial⟩, ⟨⟨.inl (g.1 0 1), hc_i er_0 (Nat.le_of_ble_eq_true rfl) rfl, rfl, rfl, ⟨hb.1, hb.2, Or.inl rfl⟩⟩, trivial⟩, fun c hc => by obtain rfl := List.mem_singleton.mp hc; exact ⟨_, ⟨_, rfl, rfl⟩, by show (1 : Int) + ((-1) * cv (oI n) + (1 * cF g 0 1 + 0)) ≤ 0; rw [cv_oI (a := n) (by omega)]; omega⟩⟩ (by omega) (fun o G1 X1 M1 P1 => ?_)
        obtain ⟨o1, o2⟩ := o
        obtain ⟨rfl, -⟩ := po_c P1
        exact hR _ G1 X1 (f_M_0 M1) (fun u v => cF_M0 M1 u v) (fun z => by omega)
      · skip
        refine mid_L (k := kcty_a) ecty_a hG hx (xs := [cv (pvR 0), cv (oI n)]) (ys := [cF g 0 1]) ⟨by show 18 ≤ _; omega, ⟨⟨pvR 0, l0, rfl, rfl, ok_0⟩, ⟨oI n, l1, rfl, rfl, ok_oI (by omega) (by decide) (by decide)⟩, trivial⟩, ⟨⟨.inl (g.1 0 1), hc_i er_0 (Nat.le_of_ble_eq_true rfl) rfl, rfl, rfl, ⟨hb.1, hb.2, Or.inl rfl⟩⟩, trivial⟩, fun c hc => by obtain rfl := List.mem_singleton.mp hc; exact ⟨_, ⟨_, rfl, rfl⟩, by show (0 : Int) + (1 * cv (oI n) + ((-1) * cF g 0 1 + 0)) ≤ 0; rw [cv_oI (a := n) (by omega)]; omega⟩⟩ (by omega) (fun o G1 X1 M1 P1 => ?_)
        obtain ⟨o1, o2⟩ := o
        obtain ⟨z, rfl, hz, ys, hF⟩ := po_i P1
        exact hA _ _ G1 X1 M1 (fa_i er_0 (Nat.le_of_ble_eq_true rfl) rfl hF) (by omega)
set_option maxHeartbeats 2000000 in
theorem clw_run {d : Nat} (hd : 35 ≤ d) (hd2 : d ≤ 1000000) {g : pH} (hG : g_I eG g) (hx : xL g) {n : Int} (hn : -2147483648 ≤ n ∧ n ≤ 2147483647) {P : Option pv × pH → Prop} (hA : ∀ (v : Int32) (g1 : pH), g_I eG g1 → xL g1 → f_M kclw_a.2.2.2.1 g g1 → cF g1 0 1 = 0 → (1 ≤ n ∧ n ≤ 240) ∧ n ≤ cF g 0 1 → P (some (.inl v), g1)) (hR : ∀ (g1 : pH), g_I eG g1 → xL g1 → f_M kclw_a.2.2.2.1 g g1 → (∀ u v, cF g1 u v = cF g u v) → ¬ ((1 ≤ n ∧ n ≤ 240) ∧ n ≤ cF g 0 1) → P (some (oI (-1)), g1)) {lv : List (Nat × pv)} (l0 : px_lg lv 0 = some (pvR 0)) (l1 : px_lg lv 1 = some (oI n)) : t_X d 129 0 lv [] g P := by
  have hJ : J_ 0 g g := J_rf hG
  have hb := cb_0_1 hG
  by_cases a0 : n < 1
  · refine mid_L (k := kclw_1) eclw_1 hG hx (xs := [cv (pvR 0), cv (oI n)]) (ys := []) ⟨by show 35 ≤ _; omega, ⟨⟨pvR 0, l0, rfl, rfl, ok_0⟩, ⟨oI n, l1, rfl, rfl, ok_oI (by omega) (by decide) (by decide)⟩, trivial⟩, trivial, fun c hc => absurd hc List.not_mem_nil⟩ (by omega) (fun o G1 X1 M1 P1 => ?_)
    obtain ⟨o1, o2⟩ := o
    obtain ⟨rfl, -⟩ := po_c P1
    exact hR _ G1 X1 (f_M_0 M1) (fun u v => cF_M0 M1 u v) (fun z => by omega)
  · skip
    by_cases a1 : 240 < n
    · refine mid_L (k := kclw_2) eclw_2 hG hx (xs := [cv (pvR 0), cv (oI n)]) (ys := []) ⟨by show 35 ≤ _; omega, ⟨⟨pvR 0, l0, rfl, rfl, ok_0⟩, ⟨oI n, l1, rfl, rfl, ok_oI (by omega) (by decide) (by decide)⟩, trivial⟩, trivial, fun c hc => absurd hc List.not_mem_nil⟩ (by omega) (fun o G1 X1 M1 P1 => ?_)
      obtain ⟨o1, o2⟩ := o
      obtain ⟨rfl, -⟩ := po_c P1
      exact hR _ G1 X1 (f_M_0 M1) (fun u v => cF_M0 M1 u v) (fun z => by omega)
    · skip
      by_cases a2 : cF g 0 1 < n
      · refine mid_L (k := kclw_3) eclw_3 hG hx (xs := [cv (pvR 0), cv (oI n)]) (ys := [cF g 0 1]) ⟨by show 35 ≤ _; omega, ⟨⟨pvR 0, l0, rfl, rfl, ok_0⟩, ⟨oI n, l1, rfl, rfl, ok_oI (by omega) (by decide) (by decide)⟩, trivial⟩, ⟨⟨.inl (g.1 0 1), hc_i er_0 (Nat.le_of_ble_eq_true rfl) rfl, rfl, rfl, ⟨hb.1, hb.2, Or.inl rfl⟩⟩, trivial⟩, fun c hc => by obtain rfl := List.mem_singleton.mp hc; exact ⟨_, ⟨_, rfl, rfl⟩, by show (1 : Int) + ((-1) * cv (oI n) + (1 * cF g 0 1 + 0)) ≤ 0; rw [cv_oI (a := n) (by omega)]; omega⟩⟩ (by omega) (fun o G1 X1 M1 P1 => ?_)
        obtain ⟨o1, o2⟩ := o
        obtain ⟨rfl, -⟩ := po_c P1
        exact hR _ G1 X1 (f_M_0 M1) (fun u v => cF_M0 M1 u v) (fun z => by omega)
      · skip
        refine mid_L (k := kclw_a) eclw_a hG hx (xs := [cv (pvR 0), cv (oI n)]) (ys := [cF g 0 1]) ⟨by show 35 ≤ _; omega, ⟨⟨pvR 0, l0, rfl, rfl, ok_0⟩, ⟨oI n, l1, rfl, rfl, ok_oI (by omega) (by decide) (by decide)⟩, trivial⟩, ⟨⟨.inl (g.1 0 1), hc_i er_0 (Nat.le_of_ble_eq_true rfl) rfl, rfl, rfl, ⟨hb.1, hb.2, Or.inl rfl⟩⟩, trivial⟩, fun c hc => by obtain rfl := List.mem_singleton.mp hc; exact ⟨_, ⟨_, rfl, rfl⟩, by show (0 : Int) + (1 * cv (oI n) + ((-1) * cF g 0 1 + 0)) ≤ 0; rw [cv_oI (a := n) (by omega)]; omega⟩⟩ (by omega) (fun o G1 X1 M1 P1 => ?_)
        obtain ⟨o1, o2⟩ := o
        obtain ⟨z, rfl, hz, ys, hF⟩ := po_i P1
        exact hA _ _ G1 X1 M1 (fa_i er_0 (Nat.le_of_ble_eq_true rfl) rfl hF) (by omega)
set_option maxHeartbeats 2000000 in
theorem csp_run {d : Nat} (hd : 4 ≤ d) (hd2 : d ≤ 1000000) {g : pH} (hG : g_I eG g) (hx : xL g) {n w : Int} (hn : -2147483648 ≤ n ∧ n ≤ 2147483647) (hw : -2147483648 ≤ w ∧ w ≤ 2147483647) {P : Option pv × pH → Prop} (hA : ∀ (v : Int64) (g1 : pH), g_I eG g1 → xL g1 → f_M kcsp_a.2.2.2.1 g g1 → cF g1 0 1 = 0 → (2 ≤ n ∧ n ≤ 12) ∧ n ≤ cF g 0 1 → P (some (.inr (.inl v)), g1)) (hR : ∀ (z : Int64) (g1 : pH), g_I eG g1 → xL g1 → f_M kcsp_a.2.2.2.1 g g1 → (∀ u v, cF g1 u v = cF g u v) → ¬ ((2 ≤ n ∧ n ≤ 12) ∧ n ≤ cF g 0 1) → P (some (.inr (.inl z)), g1)) {lv : List (Nat × pv)} (l0 : px_lg lv 0 = some (pvR 0)) (l1 : px_lg lv 1 = some (oI n)) (l2 : px_lg lv 2 = some (oI w)) : t_X d 149 0 lv [] g P := by
  have hJ : J_ 0 g g := J_rf hG
  have hb := cb_0_1 hG
  by_cases a0 : n < 2
  · refine mid_L (k := kcsp_1) ecsp_1 hG hx (xs := [cv (pvR 0), cv (oI n), cv (oI w)]) (ys := []) ⟨by show 4 ≤ _; omega, ⟨⟨pvR 0, l0, rfl, rfl, ok_0⟩, ⟨oI n, l1, rfl, rfl, ok_oI (by omega) (by decide) (by decide)⟩, ⟨oI w, l2, rfl, rfl, ok_full32 _⟩, trivial⟩, trivial, fun c hc => absurd hc List.not_mem_nil⟩ (by omega) (fun o G1 X1 M1 P1 => ?_)
    obtain ⟨o1, o2⟩ := o
    obtain ⟨z, rfl, -⟩ := po_l P1
    exact hR _ _ G1 X1 (f_M_0 M1) (fun u v => cF_M0 M1 u v) (fun z => by omega)
  · skip
    by_cases a1 : 12 < n
    · refine mid_L (k := kcsp_2) ecsp_2 hG hx (xs := [cv (pvR 0), cv (oI n), cv (oI w)]) (ys := []) ⟨by show 4 ≤ _; omega, ⟨⟨pvR 0, l0, rfl, rfl, ok_0⟩, ⟨oI n, l1, rfl, rfl, ok_oI (by omega) (by decide) (by decide)⟩, ⟨oI w, l2, rfl, rfl, ok_full32 _⟩, trivial⟩, trivial, fun c hc => absurd hc List.not_mem_nil⟩ (by omega) (fun o G1 X1 M1 P1 => ?_)
      obtain ⟨o1, o2⟩ := o
      obtain ⟨z, rfl, -⟩ := po_l P1
      exact hR _ _ G1 X1 (f_M_0 M1) (fun u v => cF_M0 M1 u v) (fun z => by omega)
    · skip
      by_cases a2 : cF g 0 1 < n
      · refine mid_L (k := kcsp_3) ecsp_3 hG hx (xs := [cv (pvR 0), cv (oI n), cv (oI w)]) (ys := [cF g 0 1]) ⟨by show 4 ≤ _; omega, ⟨⟨pvR 0, l0, rfl, rfl, ok_0⟩, ⟨oI n, l1, rfl, rfl, ok_oI (by omega) (by decide) (by decide)⟩, ⟨oI w, l2, rfl, rfl, ok_full32 _⟩, trivial⟩, ⟨⟨.inl (g.1 0 1), hc_i er_0 (Nat.le_of_ble_eq_true rfl) rfl, rfl, rfl, ⟨hb.1, hb.2, Or.inl rfl⟩⟩, trivial⟩, fun c hc => by obtain rfl := List.mem_singleton.mp hc; exact ⟨_, ⟨_, rfl, rfl⟩, by show (1 : Int) + ((-1) * cv (oI n) + (1 * cF g 0 1 + 0)) ≤ 0; rw [cv_oI (a := n) (by omega)]; omega⟩⟩ (by omega) (fun o G1 X1 M1 P1 => ?_)
        obtain ⟨o1, o2⟩ := o
        obtain ⟨z, rfl, -⟩ := po_l P1
        exact hR _ _ G1 X1 (f_M_0 M1) (fun u v => cF_M0 M1 u v) (fun z => by omega)
      · skip
        refine mid_L (k := kcsp_a) ecsp_a hG hx (xs := [cv (pvR 0), cv (oI n), cv (oI w)]) (ys := [cF g 0 1]) ⟨by show 4 ≤ _; omega, ⟨⟨pvR 0, l0, rfl, rfl, ok_0⟩, ⟨oI n, l1, rfl, rfl, ok_oI (by omega) (by decide) (by decide)⟩, ⟨oI w, l2, rfl, rfl, ok_full32 _⟩, trivial⟩, ⟨⟨.inl (g.1 0 1), hc_i er_0 (Nat.le_of_ble_eq_true rfl) rfl, rfl, rfl, ⟨hb.1, hb.2, Or.inl rfl⟩⟩, trivial⟩, fun c hc => by obtain rfl := List.mem_singleton.mp hc; exact ⟨_, ⟨_, rfl, rfl⟩, by show (0 : Int) + (1 * cv (oI n) + ((-1) * cF g 0 1 + 0)) ≤ 0; rw [cv_oI (a := n) (by omega)]; omega⟩⟩ (by omega) (fun o G1 X1 M1 P1 => ?_)
        obtain ⟨o1, o2⟩ := o
        obtain ⟨z, rfl, ys, hF⟩ := po_l P1
        exact hA _ _ G1 X1 M1 (fa_i er_0 (Nat.le_of_ble_eq_true rfl) rfl hF) (by omega)
set_option maxHeartbeats 2000000 in
theorem csy_run {d : Nat} (hd : 4 ≤ d) (hd2 : d ≤ 1000000) {g : pH} (hG : g_I eG g) (hx : xL g) {n i j w : Int} (hn : -2147483648 ≤ n ∧ n ≤ 2147483647) (hi : -2147483648 ≤ i ∧ i ≤ 2147483647) (hj : -2147483648 ≤ j ∧ j ≤ 2147483647) (hw : -2147483648 ≤ w ∧ w ≤ 2147483647) {P : Option pv × pH → Prop} (hA : ∀ (v : Int64) (g1 : pH), g_I eG g1 → xL g1 → f_M kcsy_a.2.2.2.1 g g1 → cF g1 0 1 = 0 → (2 ≤ n ∧ n ≤ 12) ∧ (0 ≤ w ∧ w ≤ 3) ∧ n ≤ cF g 0 1 → P (some (.inr (.inl v)), g1)) (hR : ∀ (z : Int64) (g1 : pH), g_I eG g1 → xL g1 → f_M kcsy_a.2.2.2.1 g g1 → (∀ u v, cF g1 u v = cF g u v) → ¬ ((2 ≤ n ∧ n ≤ 12) ∧ (0 ≤ w ∧ w ≤ 3) ∧ n ≤ cF g 0 1) → P (some (.inr (.inl z)), g1)) {lv : List (Nat × pv)} (l0 : px_lg lv 0 = some (pvR 0)) (l1 : px_lg lv 1 = some (oI n)) (l2 : px_lg lv 2 = some (oI i)) (l3 : px_lg lv 3 = some (oI j)) (l4 : px_lg lv 4 = some (oI w)) : t_X d 142 0 lv [] g P := by
  have hJ : J_ 0 g g := J_rf hG
  have hb := cb_0_1 hG
  by_cases a0 : n < 2
  · refine mid_L (k := kcsy_1) ecsy_1 hG hx (xs := [cv (pvR 0), cv (oI n), cv (oI i), cv (oI j), cv (oI w)]) (ys := []) ⟨by show 4 ≤ _; omega, ⟨⟨pvR 0, l0, rfl, rfl, ok_0⟩, ⟨oI n, l1, rfl, rfl, ok_oI (by omega) (by decide) (by decide)⟩, ⟨oI i, l2, rfl, rfl, ok_full32 _⟩, ⟨oI j, l3, rfl, rfl, ok_full32 _⟩, ⟨oI w, l4, rfl, rfl, ok_full32 _⟩, trivial⟩, trivial, fun c hc => absurd hc List.not_mem_nil⟩ (by omega) (fun o G1 X1 M1 P1 => ?_)
    obtain ⟨o1, o2⟩ := o
    obtain ⟨z, rfl, -⟩ := po_l P1
    exact hR _ _ G1 X1 (f_M_0 M1) (fun u v => cF_M0 M1 u v) (fun z => by omega)
  · skip
    by_cases a1 : 12 < n
    · refine mid_L (k := kcsy_2) ecsy_2 hG hx (xs := [cv (pvR 0), cv (oI n), cv (oI i), cv (oI j), cv (oI w)]) (ys := []) ⟨by show 4 ≤ _; omega, ⟨⟨pvR 0, l0, rfl, rfl, ok_0⟩, ⟨oI n, l1, rfl, rfl, ok_oI (by omega) (by decide) (by decide)⟩, ⟨oI i, l2, rfl, rfl, ok_full32 _⟩, ⟨oI j, l3, rfl, rfl, ok_full32 _⟩, ⟨oI w, l4, rfl, rfl, ok_full32 _⟩, trivial⟩, trivial, fun c hc => absurd hc List.not_mem_nil⟩ (by omega) (fun o G1 X1 M1 P1 => ?_)
      obtain ⟨o1, o2⟩ := o
      obtain ⟨z, rfl, -⟩ := po_l P1
      exact hR _ _ G1 X1 (f_M_0 M1) (fun u v => cF_M0 M1 u v) (fun z => by omega)
    · skip
      by_cases a2 : w < 0
      · refine mid_L (k := kcsy_3) ecsy_3 hG hx (xs := [cv (pvR 0), cv (oI n), cv (oI i), cv (oI j), cv (oI w)]) (ys := []) ⟨by show 4 ≤ _; omega, ⟨⟨pvR 0, l0, rfl, rfl, ok_0⟩, ⟨oI n, l1, rfl, rfl, ok_full32 _⟩, ⟨oI i, l2, rfl, rfl, ok_full32 _⟩, ⟨oI j, l3, rfl, rfl, ok_full32 _⟩, ⟨oI w, l4, rfl, rfl, ok_oI (by omega) (by decide) (by decide)⟩, trivial⟩, trivial, fun c hc => absurd hc List.not_mem_nil⟩ (by omega) (fun o G1 X1 M1 P1 => ?_)
        obtain ⟨o1, o2⟩ := o
        obtain ⟨z, rfl, -⟩ := po_l P1
        exact hR _ _ G1 X1 (f_M_0 M1) (fun u v => cF_M0 M1 u v) (fun z => by omega)
      · skip
        by_cases a3 : 3 < w
        · refine mid_L (k := kcsy_4) ecsy_4 hG hx (xs := [cv (pvR 0), cv (oI n), cv (oI i), cv (oI j), cv (oI w)]) (ys := []) ⟨by show 4 ≤ _; omega, ⟨⟨pvR 0, l0, rfl, rfl, ok_0⟩, ⟨oI n, l1, rfl, rfl, ok_full32 _⟩, ⟨oI i, l2, rfl, rfl, ok_full32 _⟩, ⟨oI j, l3, rfl, rfl, ok_full32 _⟩, ⟨oI w, l4, rfl, rfl, ok_oI (by omega) (by decide) (by decide)⟩, trivial⟩, trivial, fun c hc => absurd hc List.not_mem_nil⟩ (by omega) (fun o G1 X1 M1 P1 => ?_)
          obtain ⟨o1, o2⟩ := o
          obtain ⟨z, rfl, -⟩ := po_l P1
          exact hR _ _ G1 X1 (f_M_0 M1) (fun u v => cF_M0 M1 u v) (fun z => by omega)
        · skip
          by_cases a4 : cF g 0 1 < n
          · refine mid_L (k := kcsy_5) ecsy_5 hG hx (xs := [cv (pvR 0), cv (oI n), cv (oI i), cv (oI j), cv (oI w)]) (ys := [cF g 0 1]) ⟨by show 4 ≤ _; omega, ⟨⟨pvR 0, l0, rfl, rfl, ok_0⟩, ⟨oI n, l1, rfl, rfl, ok_oI (by omega) (by decide) (by decide)⟩, ⟨oI i, l2, rfl, rfl, ok_full32 _⟩, ⟨oI j, l3, rfl, rfl, ok_full32 _⟩, ⟨oI w, l4, rfl, rfl, ok_oI (by omega) (by decide) (by decide)⟩, trivial⟩, ⟨⟨.inl (g.1 0 1), hc_i er_0 (Nat.le_of_ble_eq_true rfl) rfl, rfl, rfl, ⟨hb.1, hb.2, Or.inl rfl⟩⟩, trivial⟩, fun c hc => by obtain rfl := List.mem_singleton.mp hc; exact ⟨_, ⟨_, rfl, rfl⟩, by show (1 : Int) + ((-1) * cv (oI n) + (1 * cF g 0 1 + 0)) ≤ 0; rw [cv_oI (a := n) (by omega)]; omega⟩⟩ (by omega) (fun o G1 X1 M1 P1 => ?_)
            obtain ⟨o1, o2⟩ := o
            obtain ⟨z, rfl, -⟩ := po_l P1
            exact hR _ _ G1 X1 (f_M_0 M1) (fun u v => cF_M0 M1 u v) (fun z => by omega)
          · skip
            refine mid_L (k := kcsy_a) ecsy_a hG hx (xs := [cv (pvR 0), cv (oI n), cv (oI i), cv (oI j), cv (oI w)]) (ys := [cF g 0 1]) ⟨by show 4 ≤ _; omega, ⟨⟨pvR 0, l0, rfl, rfl, ok_0⟩, ⟨oI n, l1, rfl, rfl, ok_oI (by omega) (by decide) (by decide)⟩, ⟨oI i, l2, rfl, rfl, ok_full32 _⟩, ⟨oI j, l3, rfl, rfl, ok_full32 _⟩, ⟨oI w, l4, rfl, rfl, ok_oI (by omega) (by decide) (by decide)⟩, trivial⟩, ⟨⟨.inl (g.1 0 1), hc_i er_0 (Nat.le_of_ble_eq_true rfl) rfl, rfl, rfl, ⟨hb.1, hb.2, Or.inl rfl⟩⟩, trivial⟩, fun c hc => by obtain rfl := List.mem_singleton.mp hc; exact ⟨_, ⟨_, rfl, rfl⟩, by show (0 : Int) + (1 * cv (oI n) + ((-1) * cF g 0 1 + 0)) ≤ 0; rw [cv_oI (a := n) (by omega)]; omega⟩⟩ (by omega) (fun o G1 X1 M1 P1 => ?_)
            obtain ⟨o1, o2⟩ := o
            obtain ⟨z, rfl, ys, hF⟩ := po_l P1
            exact hA _ _ G1 X1 M1 (fa_i er_0 (Nat.le_of_ble_eq_true rfl) rfl hF) (by omega)
