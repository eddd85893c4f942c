/-! the tie: answers of looker, lamps, seed, as pairs (printed by wip/e2/t11.py) -/
def kclk_1 : eK := (134, (1, [(0, 2, (0, 100000, [1])), (1, 0, ((-2147483648), (-1), [])), (2, 0, ((-2147483648), 2147483647, [])), (3, 0, ((-2147483648), 2147483647, []))], [], []), (0, []), 0, [(some (0, (0, 0, [])), [], [])])
theorem eclk_1 : ex_mid eG eKT eDX 4000 kclk_1 [] 0 = true := by decide +kernel
def kclk_2 : eK := (134, (1, [(0, 2, (0, 100000, [1])), (1, 0, (8, 2147483647, [])), (2, 0, ((-2147483648), 2147483647, [])), (3, 0, ((-2147483648), 2147483647, []))], [], []), (0, []), 0, [(some (0, (0, 0, [])), [], [])])
theorem eclk_2 : ex_mid eG eKT eDX 4000 kclk_2 [] 0 = true := by decide +kernel
def kclk_3 : eK := (134, (1, [(0, 2, (0, 100000, [1])), (1, 0, ((-2147483648), 2147483647, [])), (2, 0, ((-2147483648), (-1), [])), (3, 0, ((-2147483648), 2147483647, []))], [], []), (0, []), 0, [(some (0, (0, 0, [])), [], [])])
theorem eclk_3 : ex_mid eG eKT eDX 4000 kclk_3 [] 0 = true := by decide +kernel
def kclk_4 : eK := (134, (1, [(0, 2, (0, 100000, [1])), (1, 0, ((-2147483648), 2147483647, [])), (2, 0, (10, 2147483647, [])), (3, 0, ((-2147483648), 2147483647, []))], [], []), (0, []), 0, [(some (0, (0, 0, [])), [], [])])
theorem eclk_4 : ex_mid eG eKT eDX 4000 kclk_4 [] 0 = true := by decide +kernel
def kclk_5 : eK := (134, (1, [(0, 2, (0, 100000, [1])), (1, 0, ((-2147483648), 2147483647, [])), (2, 0, ((-2147483648), 2147483647, [])), (3, 0, ((-2147483648), (-1), []))], [], []), (0, []), 0, [(some (0, (0, 0, [])), [], [])])
theorem eclk_5 : ex_mid eG eKT eDX 4000 kclk_5 [] 0 = true := by decide +kernel
def kclk_6 : eK := (134, (1, [(0, 2, (0, 100000, [1])), (1, 0, ((-2147483648), 2147483647, [])), (2, 0, ((-2147483648), 2147483647, [])), (3, 0, (10000, 2147483647, []))], [], []), (0, []), 0, [(some (0, (0, 0, [])), [], [])])
theorem eclk_6 : ex_mid eG eKT eDX 4000 kclk_6 [] 0 = true := by decide +kernel
def kclk_a : eK := (134, (1, [(0, 2, (0, 100000, [1])), (1, 0, (0, 7, [])), (2, 0, (0, 9, [])), (3, 0, (0, 9999, []))], [], []), (0, []), 230871130056998901634447500586778987139139097287883476570009531665502276004866468426255466337216302582851335913472, [(some (0, (1, 1, [])), [], [])])
theorem eclk_a : ex_mid eG eKT eDX 4000 kclk_a [] 0 = true := by decide +kernel
def kmlk_1 : eK := (221, (1, [(0, 2, (0, 100000, [197])), (1, 0, ((-2147483648), (-1), [])), (2, 0, ((-2147483648), 2147483647, [])), (3, 0, ((-2147483648), 2147483647, []))], [], []), (0, []), 0, [(some (0, (0, 0, [])), [], [])])
theorem emlk_1 : ex_mid eG eKT eDX 4000 kmlk_1 [] 0 = true := by decide +kernel
def kmlk_2 : eK := (221, (1, [(0, 2, (0, 100000, [197])), (1, 0, (8, 2147483647, [])), (2, 0, ((-2147483648), 2147483647, [])), (3, 0, ((-2147483648), 2147483647, []))], [], []), (0, []), 0, [(some (0, (0, 0, [])), [], [])])
theorem emlk_2 : ex_mid eG eKT eDX 4000 kmlk_2 [] 0 = true := by decide +kernel
def kmlk_3 : eK := (221, (1, [(0, 2, (0, 100000, [197])), (1, 0, ((-2147483648), 2147483647, [])), (2, 0, ((-2147483648), (-1), [])), (3, 0, ((-2147483648), 2147483647, []))], [], []), (0, []), 0, [(some (0, (0, 0, [])), [], [])])
theorem emlk_3 : ex_mid eG eKT eDX 4000 kmlk_3 [] 0 = true := by decide +kernel
def kmlk_4 : eK := (221, (1, [(0, 2, (0, 100000, [197])), (1, 0, ((-2147483648), 2147483647, [])), (2, 0, (10, 2147483647, [])), (3, 0, ((-2147483648), 2147483647, []))], [], []), (0, []), 0, [(some (0, (0, 0, [])), [], [])])
theorem emlk_4 : ex_mid eG eKT eDX 4000 kmlk_4 [] 0 = true := by decide +kernel
def kmlk_5 : eK := (221, (1, [(0, 2, (0, 100000, [197])), (1, 0, ((-2147483648), 2147483647, [])), (2, 0, ((-2147483648), 2147483647, [])), (3, 0, ((-2147483648), (-1), []))], [], []), (0, []), 0, [(some (0, (0, 0, [])), [], [])])
theorem emlk_5 : ex_mid eG eKT eDX 4000 kmlk_5 [] 0 = true := by decide +kernel
def kmlk_6 : eK := (221, (1, [(0, 2, (0, 100000, [197])), (1, 0, ((-2147483648), 2147483647, [])), (2, 0, ((-2147483648), 2147483647, [])), (3, 0, (10000, 2147483647, []))], [], []), (0, []), 0, [(some (0, (0, 0, [])), [], [])])
theorem emlk_6 : ex_mid eG eKT eDX 4000 kmlk_6 [] 0 = true := by decide +kernel
def kmlk_a : eK := (221, (1, [(0, 2, (0, 100000, [197])), (1, 0, (0, 7, [])), (2, 0, (0, 9, [])), (3, 0, (0, 9999, []))], [], []), (0, []), 7484401160755199293711397673951122238483187965419703673848362675320399311529141360457396890849930416312274363724863165935989198920513203261536867964939094698584889601810129571993893216961111735515611513879506374243897423525653944799327468569659390307404657137427685250330253544012204956712960, [(some (0, (1, 1, [])), [], [])])
theorem emlk_a : ex_mid eG eKT eDX 4000 kmlk_a [] 0 = true := by decide +kernel
def kcla_1 : eK := (128, (1, [(0, 2, (0, 100000, [1])), (1, 0, ((-2147483648), (-1), []))], [], []), (0, []), 0, [(some (0, (0, 0, [])), [], [])])
theorem ecla_1 : ex_mid eG eKT eDX 4000 kcla_1 [] 0 = true := by decide +kernel
def kcla_2 : eK := (128, (1, [(0, 2, (0, 100000, [1])), (1, 0, (10, 2147483647, []))], [], []), (0, []), 0, [(some (0, (0, 0, [])), [], [])])
theorem ecla_2 : ex_mid eG eKT eDX 4000 kcla_2 [] 0 = true := by decide +kernel
def kcla_a : eK := (128, (1, [(0, 2, (0, 100000, [1])), (1, 0, (0, 9, []))], [], []), (0, []), 262144, [(some (0, (1, 1, [])), [], [])])
theorem ecla_a : ex_mid eG eKT eDX 4000 kcla_a [] 0 = true := by decide +kernel
def kmla_1 : eK := (211, (1, [(0, 2, (0, 100000, [197])), (1, 0, ((-2147483648), (-1), []))], [], []), (0, []), 0, [(some (0, (0, 0, [])), [], [])])
theorem emla_1 : ex_mid eG eKT eDX 4000 kmla_1 [] 0 = true := by decide +kernel
def kmla_2 : eK := (211, (1, [(0, 2, (0, 100000, [197])), (1, 0, (10, 2147483647, []))], [], []), (0, []), 0, [(some (0, (0, 0, [])), [], [])])
theorem emla_2 : ex_mid eG eKT eDX 4000 kmla_2 [] 0 = true := by decide +kernel
def kmla_a : eK := (211, (1, [(0, 2, (0, 100000, [197])), (1, 0, (0, 9, []))], [], []), (0, []), 38981256045599996321413529551500753243504907430380030107471625828851794763065704409862460263528041036901219664925634672733836679460812376186311949185250613678125110799825892119483158621960214593411198373916873515494742391701579499782985454461875862451310955212417110188327314359967656443904, [(some (0, (1, 1, [])), [], [])])
theorem emla_a : ex_mid eG eKT eDX 4000 kmla_a [] 0 = true := by decide +kernel
def kcse_1 : eK := (144, (1, [(0, 2, (0, 100000, [1])), (1, 0, ((-2147483648), (-1), []))], [], []), (0, []), 0, [(some (0, (0, 0, [])), [], [])])
theorem ecse_1 : ex_mid eG eKT eDX 4000 kcse_1 [] 0 = true := by decide +kernel
def kcse_2 : eK := (144, (1, [(0, 2, (0, 100000, [1])), (1, 0, (65536, 2147483647, []))], [], []), (0, []), 0, [(some (0, (0, 0, [])), [], [])])
theorem ecse_2 : ex_mid eG eKT eDX 4000 kcse_2 [] 0 = true := by decide +kernel
def kcse_a : eK := (144, (1, [(0, 2, (0, 100000, [1])), (1, 0, (0, 65535, []))], [], []), (0, []), 2097152, [(some (0, (1, 1, [])), [], [])])
theorem ecse_a : ex_mid eG eKT eDX 4000 kcse_a [] 0 = true := by decide +kernel
def kmse_1 : eK := (245, (1, [(0, 2, (0, 100000, [197])), (1, 0, ((-2147483648), (-1), []))], [], []), (0, []), 0, [(some (0, (0, 0, [])), [], [])])
theorem emse_1 : ex_mid eG eKT eDX 4000 kmse_1 [] 0 = true := by decide +kernel
def kmse_2 : eK := (245, (1, [(0, 2, (0, 100000, [197])), (1, 0, (65536, 2147483647, []))], [], []), (0, []), 0, [(some (0, (0, 0, [])), [], [])])
theorem emse_2 : ex_mid eG eKT eDX 4000 kmse_2 [] 0 = true := by decide +kernel
def kmse_a : eK := (245, (1, [(0, 2, (0, 100000, [197])), (1, 0, (0, 65535, []))], [], []), (0, []), 38981256045599996321413529551500753243504907430380030107471625828851794763065704409862460263528041036901219664925634672733836679460812376186311949185250613678125110799825892119483158621960214593411198373916873515494742391701579499782985454461875862451310955212417110188327314359967656443904, [(some (0, (1, 1, [])), [], [])])
theorem emse_a : ex_mid eG eKT eDX 4000 kmse_a [] 0 = true := by decide +kernel
set_option maxHeartbeats 2000000 in
theorem clk_run {d : Nat} (hd : 1 ≤ d) (hd2 : d ≤ 1000000) {g : pH} (hG : g_I eG g) (hx : xL g) {i w n : Int} (hi : -2147483648 ≤ i ∧ i ≤ 2147483647) (hw : -2147483648 ≤ w ∧ w ≤ 2147483647) (hn : -2147483648 ≤ n ∧ n ≤ 2147483647) {P : Option pv × pH → Prop} (hA : ∀ (g1 : pH), g_I eG g1 → xL g1 → f_M kclk_a.2.2.2.1 g g1 → (0 ≤ i ∧ i ≤ 7) ∧ (0 ≤ w ∧ w ≤ 9) ∧ (0 ≤ n ∧ n ≤ 9999) → P (some (oI 1), g1)) (hR : ∀ (g1 : pH), g_I eG g1 → xL g1 → f_M kclk_a.2.2.2.1 g g1 → (∀ u v, cF g1 u v = cF g u v) → ¬ ((0 ≤ i ∧ i ≤ 7) ∧ (0 ≤ w ∧ w ≤ 9) ∧ (0 ≤ n ∧ n ≤ 9999)) → P (some (oI 0), g1)) {lv : List (Nat × pv)} (l0 : px_lg lv 0 = some (pvR 0)) (l1 : px_lg lv 1 = some (oI i)) (l2 : px_lg lv 2 = some (oI w)) (l3 : px_lg lv 3 = some (oI n)) : t_X d 134 0 lv [] g P := by
  have hJ : J_ 0 g g := J_rf hG
  have hb := cb_0_1 hG
  by_cases a0 : i < 0
  · refine mid_L (k := kclk_1) eclk_1 hG hx (xs := [cv (pvR 0), cv (oI i), cv (oI w), cv (oI n)]) (ys := []) ⟨by show 1 ≤ _; omega, ⟨⟨pvR 0, l0, rfl, rfl, ok_0⟩, ⟨oI i, l1, rfl, rfl, ok_oI (by omega) (by decide) (by decide)⟩, ⟨oI w, l2, rfl, rfl, ok_full32 _⟩, ⟨oI n, l3, rfl, rfl, ok_full32 _⟩, trivial⟩, trivial, fun c hc => absurd hc List.not_mem_nil⟩ (by omega) (fun o G1 X1 M1 P1 => ?_)
    obtain ⟨o1, o2⟩ := o
    obtain ⟨rfl, -⟩ := po_c P1
    exact hR _ G1 X1 (f_M_0 M1) (fun u v => cF_M0 M1 u v) (fun z => by omega)
  · skip
    by_cases a1 : 7 < i
    · refine mid_L (k := kclk_2) eclk_2 hG hx (xs := [cv (pvR 0), cv (oI i), cv (oI w), cv (oI n)]) (ys := []) ⟨by show 1 ≤ _; omega, ⟨⟨pvR 0, l0, rfl, rfl, ok_0⟩, ⟨oI i, l1, rfl, rfl, ok_oI (by omega) (by decide) (by decide)⟩, ⟨oI w, l2, rfl, rfl, ok_full32 _⟩, ⟨oI n, l3, rfl, rfl, ok_full32 _⟩, trivial⟩, trivial, fun c hc => absurd hc List.not_mem_nil⟩ (by omega) (fun o G1 X1 M1 P1 => ?_)
      obtain ⟨o1, o2⟩ := o
      obtain ⟨rfl, -⟩ := po_c P1
      exact hR _ G1 X1 (f_M_0 M1) (fun u v => cF_M0 M1 u v) (fun z => by omega)
    · skip
      by_cases a2 : w < 0
      · refine mid_L (k := kclk_3) eclk_3 hG hx (xs := [cv (pvR 0), cv (oI i), cv (oI w), cv (oI n)]) (ys := []) ⟨by show 1 ≤ _; omega, ⟨⟨pvR 0, l0, rfl, rfl, ok_0⟩, ⟨oI i, l1, rfl, rfl, ok_full32 _⟩, ⟨oI w, l2, rfl, rfl, ok_oI (by omega) (by decide) (by decide)⟩, ⟨oI n, l3, rfl, rfl, ok_full32 _⟩, trivial⟩, trivial, fun c hc => absurd hc List.not_mem_nil⟩ (by omega) (fun o G1 X1 M1 P1 => ?_)
        obtain ⟨o1, o2⟩ := o
        obtain ⟨rfl, -⟩ := po_c P1
        exact hR _ G1 X1 (f_M_0 M1) (fun u v => cF_M0 M1 u v) (fun z => by omega)
      · skip
        by_cases a3 : 9 < w
        · refine mid_L (k := kclk_4) eclk_4 hG hx (xs := [cv (pvR 0), cv (oI i), cv (oI w), cv (oI n)]) (ys := []) ⟨by show 1 ≤ _; omega, ⟨⟨pvR 0, l0, rfl, rfl, ok_0⟩, ⟨oI i, l1, rfl, rfl, ok_full32 _⟩, ⟨oI w, l2, rfl, rfl, ok_oI (by omega) (by decide) (by decide)⟩, ⟨oI n, l3, rfl, rfl, ok_full32 _⟩, trivial⟩, trivial, fun c hc => absurd hc List.not_mem_nil⟩ (by omega) (fun o G1 X1 M1 P1 => ?_)
          obtain ⟨o1, o2⟩ := o
          obtain ⟨rfl, -⟩ := po_c P1
          exact hR _ G1 X1 (f_M_0 M1) (fun u v => cF_M0 M1 u v) (fun z => by omega)
        · skip
          by_cases a4 : n < 0
          · refine mid_L (k := kclk_5) eclk_5 hG hx (xs := [cv (pvR 0), cv (oI i), cv (oI w), cv (oI n)]) (ys := []) ⟨by show 1 ≤ _; omega, ⟨⟨pvR 0, l0, rfl, rfl, ok_0⟩, ⟨oI i, l1, rfl, rfl, ok_full32 _⟩, ⟨oI w, l2, rfl, rfl, ok_full32 _⟩, ⟨oI n, l3, rfl, rfl, ok_oI (by omega) (by decide) (by decide)⟩, trivial⟩, trivial, fun c hc => absurd hc List.not_mem_nil⟩ (by omega) (fun o G1 X1 M1 P1 => ?_)
            obtain ⟨o1, o2⟩ := o
            obtain ⟨rfl, -⟩ := po_c P1
            exact hR _ G1 X1 (f_M_0 M1) (fun u v => cF_M0 M1 u v) (fun z => by omega)
          · skip
            by_cases a5 : 9999 < n
            · refine mid_L (k := kclk_6) eclk_6 hG hx (xs := [cv (pvR 0), cv (oI i), cv (oI w), cv (oI n)]) (ys := []) ⟨by show 1 ≤ _; omega, ⟨⟨pvR 0, l0, rfl, rfl, ok_0⟩, ⟨oI i, l1, rfl, rfl, ok_full32 _⟩, ⟨oI w, l2, rfl, rfl, ok_full32 _⟩, ⟨oI n, l3, rfl, rfl, ok_oI (by omega) (by decide) (by decide)⟩, trivial⟩, trivial, fun c hc => absurd hc List.not_mem_nil⟩ (by omega) (fun o G1 X1 M1 P1 => ?_)
              obtain ⟨o1, o2⟩ := o
              obtain ⟨rfl, -⟩ := po_c P1
              exact hR _ G1 X1 (f_M_0 M1) (fun u v => cF_M0 M1 u v) (fun z => by omega)
            · skip
              refine mid_L (k := kclk_a) eclk_a hG hx (xs := [cv (pvR 0), cv (oI i), cv (oI w), cv (oI n)]) (ys := []) ⟨by show 1 ≤ _; omega, ⟨⟨pvR 0, l0, rfl, rfl, ok_0⟩, ⟨oI i, l1, rfl, rfl, ok_oI (by omega) (by decide) (by decide)⟩, ⟨oI w, l2, rfl, rfl, ok_oI (by omega) (by decide) (by decide)⟩, ⟨oI n, l3, rfl, rfl, ok_oI (by omega) (by decide) (by decide)⟩, trivial⟩, trivial, fun c hc => absurd hc List.not_mem_nil⟩ (by omega) (fun o G1 X1 M1 P1 => ?_)
              obtain ⟨o1, o2⟩ := o
              obtain ⟨rfl, ys, hF⟩ := po_c P1
              exact hA _ G1 X1 M1 (by omega)
set_option maxHeartbeats 2000000 in
theorem mlk_run {d : Nat} (hd : 1 ≤ d) (hd2 : d ≤ 1000000) {g : pH} (hG : g_I eG g) (hx : xL g) {i w n : Int} (hi : -2147483648 ≤ i ∧ i ≤ 2147483647) (hw : -2147483648 ≤ w ∧ w ≤ 2147483647) (hn : -2147483648 ≤ n ∧ n ≤ 2147483647) {P : Option pv × pH → Prop} (hA : ∀ (g1 : pH), g_I eG g1 → xL g1 → f_M kmlk_a.2.2.2.1 g g1 → (0 ≤ i ∧ i ≤ 7) ∧ (0 ≤ w ∧ w ≤ 9) ∧ (0 ≤ n ∧ n ≤ 9999) → P (some (oI 1), g1)) (hR : ∀ (g1 : pH), g_I eG g1 → xL g1 → f_M kmlk_a.2.2.2.1 g g1 → (∀ u v, cF g1 u v = cF g u v) → ¬ ((0 ≤ i ∧ i ≤ 7) ∧ (0 ≤ w ∧ w ≤ 9) ∧ (0 ≤ n ∧ n ≤ 9999)) → P (some (oI 0), g1)) {lv : List (Nat × pv)} (l0 : px_lg lv 0 = some (pvR 196)) (l1 : px_lg lv 1 = some (oI i)) (l2 : px_lg lv 2 = some (oI w)) (l3 : px_lg lv 3 = some (oI n)) : t_X d 221 0 lv [] g P := by
  have hJ : J_ 0 g g := J_rf hG
  have hb := cb_m17 hG
  by_cases a0 : i < 0
  · refine mid_L (k := kmlk_1) emlk_1 hG hx (xs := [cv (pvR 196), cv (oI i), cv (oI w), cv (oI n)]) (ys := []) ⟨by show 1 ≤ _; omega, ⟨⟨pvR 196, l0, rfl, rfl, ok_this⟩, ⟨oI i, l1, rfl, rfl, ok_oI (by omega) (by decide) (by decide)⟩, ⟨oI w, l2, rfl, rfl, ok_full32 _⟩, ⟨oI n, l3, rfl, rfl, ok_full32 _⟩, trivial⟩, trivial, fun c hc => absurd hc List.not_mem_nil⟩ (by omega) (fun o G1 X1 M1 P1 => ?_)
    obtain ⟨o1, o2⟩ := o
    obtain ⟨rfl, -⟩ := po_c P1
    exact hR _ G1 X1 (f_M_0 M1) (fun u v => cF_M0 M1 u v) (fun z => by omega)
  · skip
    by_cases a1 : 7 < i
    · refine mid_L (k := kmlk_2) emlk_2 hG hx (xs := [cv (pvR 196), cv (oI i), cv (oI w), cv (oI n)]) (ys := []) ⟨by show 1 ≤ _; omega, ⟨⟨pvR 196, l0, rfl, rfl, ok_this⟩, ⟨oI i, l1, rfl, rfl, ok_oI (by omega) (by decide) (by decide)⟩, ⟨oI w, l2, rfl, rfl, ok_full32 _⟩, ⟨oI n, l3, rfl, rfl, ok_full32 _⟩, trivial⟩, trivial, fun c hc => absurd hc List.not_mem_nil⟩ (by omega) (fun o G1 X1 M1 P1 => ?_)
      obtain ⟨o1, o2⟩ := o
      obtain ⟨rfl, -⟩ := po_c P1
      exact hR _ G1 X1 (f_M_0 M1) (fun u v => cF_M0 M1 u v) (fun z => by omega)
    · skip
      by_cases a2 : w < 0
      · refine mid_L (k := kmlk_3) emlk_3 hG hx (xs := [cv (pvR 196), cv (oI i), cv (oI w), cv (oI n)]) (ys := []) ⟨by show 1 ≤ _; omega, ⟨⟨pvR 196, l0, rfl, rfl, ok_this⟩, ⟨oI i, l1, rfl, rfl, ok_full32 _⟩, ⟨oI w, l2, rfl, rfl, ok_oI (by omega) (by decide) (by decide)⟩, ⟨oI n, l3, rfl, rfl, ok_full32 _⟩, trivial⟩, trivial, fun c hc => absurd hc List.not_mem_nil⟩ (by omega) (fun o G1 X1 M1 P1 => ?_)
        obtain ⟨o1, o2⟩ := o
        obtain ⟨rfl, -⟩ := po_c P1
        exact hR _ G1 X1 (f_M_0 M1) (fun u v => cF_M0 M1 u v) (fun z => by omega)
      · skip
        by_cases a3 : 9 < w
        · refine mid_L (k := kmlk_4) emlk_4 hG hx (xs := [cv (pvR 196), cv (oI i), cv (oI w), cv (oI n)]) (ys := []) ⟨by show 1 ≤ _; omega, ⟨⟨pvR 196, l0, rfl, rfl, ok_this⟩, ⟨oI i, l1, rfl, rfl, ok_full32 _⟩, ⟨oI w, l2, rfl, rfl, ok_oI (by omega) (by decide) (by decide)⟩, ⟨oI n, l3, rfl, rfl, ok_full32 _⟩, trivial⟩, trivial, fun c hc => absurd hc List.not_mem_nil⟩ (by omega) (fun o G1 X1 M1 P1 => ?_)
          obtain ⟨o1, o2⟩ := o
          obtain ⟨rfl, -⟩ := po_c P1
          exact hR _ G1 X1 (f_M_0 M1) (fun u v => cF_M0 M1 u v) (fun z => by omega)
        · skip
          by_cases a4 : n < 0
          · refine mid_L (k := kmlk_5) emlk_5 hG hx (xs := [cv (pvR 196), cv (oI i), cv (oI w), cv (oI n)]) (ys := []) ⟨by show 1 ≤ _; omega, ⟨⟨pvR 196, l0, rfl, rfl, ok_this⟩, ⟨oI i, l1, rfl, rfl, ok_full32 _⟩, ⟨oI w, l2, rfl, rfl, ok_full32 _⟩, ⟨oI n, l3, rfl, rfl, ok_oI (by omega) (by decide) (by decide)⟩, trivial⟩, trivial, fun c hc => absurd hc List.not_mem_nil⟩ (by omega) (fun o G1 X1 M1 P1 => ?_)
            obtain ⟨o1, o2⟩ := o
            obtain ⟨rfl, -⟩ := po_c P1
            exact hR _ G1 X1 (f_M_0 M1) (fun u v => cF_M0 M1 u v) (fun z => by omega)
          · skip
            by_cases a5 : 9999 < n
            · refine mid_L (k := kmlk_6) emlk_6 hG hx (xs := [cv (pvR 196), cv (oI i), cv (oI w), cv (oI n)]) (ys := []) ⟨by show 1 ≤ _; omega, ⟨⟨pvR 196, l0, rfl, rfl, ok_this⟩, ⟨oI i, l1, rfl, rfl, ok_full32 _⟩, ⟨oI w, l2, rfl, rfl, ok_full32 _⟩, ⟨oI n, l3, rfl, rfl, ok_oI (by omega) (by decide) (by decide)⟩, trivial⟩, trivial, fun c hc => absurd hc List.not_mem_nil⟩ (by omega) (fun o G1 X1 M1 P1 => ?_)
              obtain ⟨o1, o2⟩ := o
              obtain ⟨rfl, -⟩ := po_c P1
              exact hR _ G1 X1 (f_M_0 M1) (fun u v => cF_M0 M1 u v) (fun z => by omega)
            · skip
              refine mid_L (k := kmlk_a) emlk_a hG hx (xs := [cv (pvR 196), cv (oI i), cv (oI w), cv (oI n)]) (ys := []) ⟨by show 1 ≤ _; omega, ⟨⟨pvR 196, l0, rfl, rfl, ok_this⟩, ⟨oI i, l1, rfl, rfl, ok_oI (by omega) (by decide) (by decide)⟩, ⟨oI w, l2, rfl, rfl, ok_oI (by omega) (by decide) (by decide)⟩, ⟨oI n, l3, rfl, rfl, ok_oI (by omega) (by decide) (by decide)⟩, trivial⟩, trivial, fun c hc => absurd hc List.not_mem_nil⟩ (by omega) (fun o G1 X1 M1 P1 => ?_)
              obtain ⟨o1, o2⟩ := o
              obtain ⟨rfl, ys, hF⟩ := po_c P1
              exact hA _ G1 X1 M1 (by omega)
set_option maxHeartbeats 2000000 in
theorem cla_run {d : Nat} (hd : 1 ≤ d) (hd2 : d ≤ 1000000) {g : pH} (hG : g_I eG g) (hx : xL g) {i : Int} (hi : -2147483648 ≤ i ∧ i ≤ 2147483647) {P : Option pv × pH → Prop} (hA : ∀ (g1 : pH), g_I eG g1 → xL g1 → f_M kcla_a.2.2.2.1 g g1 → (0 ≤ i ∧ i ≤ 9) → P (some (oI 1), g1)) (hR : ∀ (g1 : pH), g_I eG g1 → xL g1 → f_M kcla_a.2.2.2.1 g g1 → (∀ u v, cF g1 u v = cF g u v) → ¬ ((0 ≤ i ∧ i ≤ 9)) → P (some (oI 0), g1)) {lv : List (Nat × pv)} (l0 : px_lg lv 0 = some (pvR 0)) (l1 : px_lg lv 1 = some (oI i)) : t_X d 128 0 lv [] g P := by
  have hJ : J_ 0 g g := J_rf hG
  have hb := cb_0_1 hG
  by_cases a0 : i < 0
  · refine mid_L (k := kcla_1) ecla_1 hG hx (xs := [cv (pvR 0), cv (oI i)]) (ys := []) ⟨by show 1 ≤ _; omega, ⟨⟨pvR 0, l0, rfl, rfl, ok_0⟩, ⟨oI i, l1, rfl, rfl, ok_oI (by omega) (by decide) (by decide)⟩, trivial⟩, trivial, fun c hc => absurd hc List.not_mem_nil⟩ (by omega) (fun o G1 X1 M1 P1 => ?_)
    obtain ⟨o1, o2⟩ := o
    obtain ⟨rfl, -⟩ := po_c P1
    exact hR _ G1 X1 (f_M_0 M1) (fun u v => cF_M0 M1 u v) (fun z => by omega)
  · skip
    by_cases a1 : 9 < i
    · refine mid_L (k := kcla_2) ecla_2 hG hx (xs := [cv (pvR 0), cv (oI i)]) (ys := []) ⟨by show 1 ≤ _; omega, ⟨⟨pvR 0, l0, rfl, rfl, ok_0⟩, ⟨oI i, l1, rfl, rfl, ok_oI (by omega) (by decide) (by decide)⟩, trivial⟩, trivial, fun c hc => absurd hc List.not_mem_nil⟩ (by omega) (fun o G1 X1 M1 P1 => ?_)
      obtain ⟨o1, o2⟩ := o
      obtain ⟨rfl, -⟩ := po_c P1
      exact hR _ G1 X1 (f_M_0 M1) (fun u v => cF_M0 M1 u v) (fun z => by omega)
    · skip
      refine mid_L (k := kcla_a) ecla_a hG hx (xs := [cv (pvR 0), cv (oI i)]) (ys := []) ⟨by show 1 ≤ _; omega, ⟨⟨pvR 0, l0, rfl, rfl, ok_0⟩, ⟨oI i, l1, rfl, rfl, ok_oI (by omega) (by decide) (by decide)⟩, trivial⟩, trivial, fun c hc => absurd hc List.not_mem_nil⟩ (by omega) (fun o G1 X1 M1 P1 => ?_)
      obtain ⟨o1, o2⟩ := o
      obtain ⟨rfl, ys, hF⟩ := po_c P1
      exact hA _ G1 X1 M1 (by omega)
set_option maxHeartbeats 2000000 in
theorem mla_run {d : Nat} (hd : 1 ≤ d) (hd2 : d ≤ 1000000) {g : pH} (hG : g_I eG g) (hx : xL g) {i : Int} (hi : -2147483648 ≤ i ∧ i ≤ 2147483647) {P : Option pv × pH → Prop} (hA : ∀ (g1 : pH), g_I eG g1 → xL g1 → f_M kmla_a.2.2.2.1 g g1 → (0 ≤ i ∧ i ≤ 9) → P (some (oI 1), g1)) (hR : ∀ (g1 : pH), g_I eG g1 → xL g1 → f_M kmla_a.2.2.2.1 g g1 → (∀ u v, cF g1 u v = cF g u v) → ¬ ((0 ≤ i ∧ i ≤ 9)) → P (some (oI 0), g1)) {lv : List (Nat × pv)} (l0 : px_lg lv 0 = some (pvR 196)) (l1 : px_lg lv 1 = some (oI i)) : t_X d 211 0 lv [] g P := by
  have hJ : J_ 0 g g := J_rf hG
  have hb := cb_m17 hG
  by_cases a0 : i < 0
  · refine mid_L (k := kmla_1) emla_1 hG hx (xs := [cv (pvR 196), cv (oI i)]) (ys := []) ⟨by show 1 ≤ _; omega, ⟨⟨pvR 196, l0, rfl, rfl, ok_this⟩, ⟨oI i, l1, rfl, rfl, ok_oI (by omega) (by decide) (by decide)⟩, trivial⟩, trivial, fun c hc => absurd hc List.not_mem_nil⟩ (by omega) (fun o G1 X1 M1 P1 => ?_)
    obtain ⟨o1, o2⟩ := o
    obtain ⟨rfl, -⟩ := po_c P1
    exact hR _ G1 X1 (f_M_0 M1) (fun u v => cF_M0 M1 u v) (fun z => by omega)
  · skip
    by_cases a1 : 9 < i
    · refine mid_L (k := kmla_2) emla_2 hG hx (xs := [cv (pvR 196), cv (oI i)]) (ys := []) ⟨by show 1 ≤ _; omega, ⟨⟨pvR 196, l0, rfl, rfl, ok_this⟩, ⟨oI i, l1, rfl, rfl, ok_oI (by omega) (by decide) (by decide)⟩, trivial⟩, trivial, fun c hc => absurd hc List.not_mem_nil⟩ (by omega) (fun o G1 X1 M1 P1 => ?_)
      obtain ⟨o1, o2⟩ := o
      obtain ⟨rfl, -⟩ := po_c P1
      exact hR _ G1 X1 (f_M_0 M1) (fun u v => cF_M0 M1 u v) (fun z => by omega)
    · skip
      refine mid_L (k := kmla_a) emla_a hG hx (xs := [cv (pvR 196), cv (oI i)]) (ys := []) ⟨by show 1 ≤ _; omega, ⟨⟨pvR 196, l0, rfl, rfl, ok_this⟩, ⟨oI i, l1, rfl, rfl, ok_oI (by omega) (by decide) (by decide)⟩, trivial⟩, trivial, fun c hc => absurd hc List.not_mem_nil⟩ (by omega) (fun o G1 X1 M1 P1 => ?_)
      obtain ⟨o1, o2⟩ := o
      obtain ⟨rfl, ys, hF⟩ := po_c P1
      exact hA _ G1 X1 M1 (by omega)
set_option maxHeartbeats 2000000 in
theorem cse_run {d : Nat} (hd : 1 ≤ d) (hd2 : d ≤ 1000000) {g : pH} (hG : g_I eG g) (hx : xL g) {i : Int} (hi : -2147483648 ≤ i ∧ i ≤ 2147483647) {P : Option pv × pH → Prop} (hA : ∀ (g1 : pH), g_I eG g1 → xL g1 → f_M kcse_a.2.2.2.1 g g1 → (0 ≤ i ∧ i ≤ 65535) → P (some (oI 1), g1)) (hR : ∀ (g1 : pH), g_I eG g1 → xL g1 → f_M kcse_a.2.2.2.1 g g1 → (∀ u v, cF g1 u v = cF g u v) → ¬ ((0 ≤ i ∧ i ≤ 65535)) → P (some (oI 0), g1)) {lv : List (Nat × pv)} (l0 : px_lg lv 0 = some (pvR 0)) (l1 : px_lg lv 1 = some (oI i)) : t_X d 144 0 lv [] g P := by
  have hJ : J_ 0 g g := J_rf hG
  have hb := cb_0_1 hG
  by_cases a0 : i < 0
  · refine mid_L (k := kcse_1) ecse_1 hG hx (xs := [cv (pvR 0), cv (oI i)]) (ys := []) ⟨by show 1 ≤ _; omega, ⟨⟨pvR 0, l0, rfl, rfl, ok_0⟩, ⟨oI i, l1, rfl, rfl, ok_oI (by omega) (by decide) (by decide)⟩, trivial⟩, trivial, fun c hc => absurd hc List.not_mem_nil⟩ (by omega) (fun o G1 X1 M1 P1 => ?_)
    obtain ⟨o1, o2⟩ := o
    obtain ⟨rfl, -⟩ := po_c P1
    exact hR _ G1 X1 (f_M_0 M1) (fun u v => cF_M0 M1 u v) (fun z => by omega)
  · skip
    by_cases a1 : 65535 < i
    · refine mid_L (k := kcse_2) ecse_2 hG hx (xs := [cv (pvR 0), cv (oI i)]) (ys := []) ⟨by show 1 ≤ _; omega, ⟨⟨pvR 0, l0, rfl, rfl, ok_0⟩, ⟨oI i, l1, rfl, rfl, ok_oI (by omega) (by decide) (by decide)⟩, trivial⟩, trivial, fun c hc => absurd hc List.not_mem_nil⟩ (by omega) (fun o G1 X1 M1 P1 => ?_)
      obtain ⟨o1, o2⟩ := o
      obtain ⟨rfl, -⟩ := po_c P1
      exact hR _ G1 X1 (f_M_0 M1) (fun u v => cF_M0 M1 u v) (fun z => by omega)
    · skip
      refine mid_L (k := kcse_a) ecse_a hG hx (xs := [cv (pvR 0), cv (oI i)]) (ys := []) ⟨by show 1 ≤ _; omega, ⟨⟨pvR 0, l0, rfl, rfl, ok_0⟩, ⟨oI i, l1, rfl, rfl, ok_oI (by omega) (by decide) (by decide)⟩, trivial⟩, trivial, fun c hc => absurd hc List.not_mem_nil⟩ (by omega) (fun o G1 X1 M1 P1 => ?_)
      obtain ⟨o1, o2⟩ := o
      obtain ⟨rfl, ys, hF⟩ := po_c P1
      exact hA _ G1 X1 M1 (by omega)
set_option maxHeartbeats 2000000 in
theorem mse_run {d : Nat} (hd : 1 ≤ d) (hd2 : d ≤ 1000000) {g : pH} (hG : g_I eG g) (hx : xL g) {i : Int} (hi : -2147483648 ≤ i ∧ i ≤ 2147483647) {P : Option pv × pH → Prop} (hA : ∀ (g1 : pH), g_I eG g1 → xL g1 → f_M kmse_a.2.2.2.1 g g1 → (0 ≤ i ∧ i ≤ 65535) → P (some (oI 1), g1)) (hR : ∀ (g1 : pH), g_I eG g1 → xL g1 → f_M kmse_a.2.2.2.1 g g1 → (∀ u v, cF g1 u v = cF g u v) → ¬ ((0 ≤ i ∧ i ≤ 65535)) → P (some (oI 0), g1)) {lv : List (Nat × pv)} (l0 : px_lg lv 0 = some (pvR 196)) (l1 : px_lg lv 1 = some (oI i)) : t_X d 245 0 lv [] g P := by
  have hJ : J_ 0 g g := J_rf hG
  have hb := cb_m17 hG
  by_cases a0 : i < 0
  · refine mid_L (k := kmse_1) emse_1 hG hx (xs := [cv (pvR 196), cv (oI i)]) (ys := []) ⟨by show 1 ≤ _; omega, ⟨⟨pvR 196, l0, rfl, rfl, ok_this⟩, ⟨oI i, l1, rfl, rfl, ok_oI (by omega) (by decide) (by decide)⟩, trivial⟩, trivial, fun c hc => absurd hc List.not_mem_nil⟩ (by omega) (fun o G1 X1 M1 P1 => ?_)
    obtain ⟨o1, o2⟩ := o
    obtain ⟨rfl, -⟩ := po_c P1
    exact hR _ G1 X1 (f_M_0 M1) (fun u v => cF_M0 M1 u v) (fun z => by omega)
  · skip
    by_cases a1 : 65535 < i
    · refine mid_L (k := kmse_2) emse_2 hG hx (xs := [cv (pvR 196), cv (oI i)]) (ys := []) ⟨by show 1 ≤ _; omega, ⟨⟨pvR 196, l0, rfl, rfl, ok_this⟩, ⟨oI i, l1, rfl, rfl, ok_oI (by omega) (by decide) (by decide)⟩, trivial⟩, trivial, fun c hc => absurd hc List.not_mem_nil⟩ (by omega) (fun o G1 X1 M1 P1 => ?_)
      obtain ⟨o1, o2⟩ := o
      obtain ⟨rfl, -⟩ := po_c P1
      exact hR _ G1 X1 (f_M_0 M1) (fun u v => cF_M0 M1 u v) (fun z => by omega)
    · skip
      refine mid_L (k := kmse_a) emse_a hG hx (xs := [cv (pvR 196), cv (oI i)]) (ys := []) ⟨by show 1 ≤ _; omega, ⟨⟨pvR 196, l0, rfl, rfl, ok_this⟩, ⟨oI i, l1, rfl, rfl, ok_oI (by omega) (by decide) (by decide)⟩, trivial⟩, trivial, fun c hc => absurd hc List.not_mem_nil⟩ (by omega) (fun o G1 X1 M1 P1 => ?_)
      obtain ⟨o1, o2⟩ := o
      obtain ⟨rfl, ys, hF⟩ := po_c P1
      exact hA _ G1 X1 M1 (by omega)
theorem mh_0 : kclk_a.2.2.2.1 &&& mR0 = 0 := by decide +kernel
theorem mh_1 : kmlk_a.2.2.2.1 &&& mR0 = 0 := by decide +kernel
theorem pt_looker {g : pH} (hG : g_I eG g) (hx : xL g) (hR : R0 g) (x1 x2 x3 : Int32) : pr_ R0 134 221 [.inl x1, .inl x2, .inl x3] 0 true g := by
  unfold pr_
  refine clk_run (i := x1.toInt) (w := x2.toInt) (n := x3.toInt) (by decide) (by decide) hG hx (i32_b _) (i32_b _) (i32_b _) (fun g1 G1 X1 M1 z1 => ?_) (fun g1 G1 X1 M1 e1 z1 => ?_) rfl (congrArg some (oI_r x1)) (congrArg some (oI_r x2)) (congrArg some (oI_r x3))
  all_goals
    have Q1 := R0_f M1 mh_0 hR
    refine ⟨_, rfl, rfl, mlk_run (i := x1.toInt) (w := x2.toInt) (n := x3.toInt) (by decide) (by decide) G1 X1 (i32_b _) (i32_b _) (i32_b _) (fun g2 G2 X2 M2 z2 => ?_) (fun g2 G2 X2 M2 e2 z2 => ?_) rfl (congrArg some (oI_r x1)) (congrArg some (oI_r x2)) (congrArg some (oI_r x3))⟩
  · exact ⟨_, rfl, rfl, G2, X2, R0_f M2 mh_1 Q1, fun _ => rfl⟩
  · exfalso; omega
  · exfalso; omega
  · exact ⟨_, rfl, rfl, G2, X2, R0_f M2 mh_1 Q1, fun _ => rfl⟩
theorem mh_2 : kcla_a.2.2.2.1 &&& mR0 = 0 := by decide +kernel
theorem mh_3 : kmla_a.2.2.2.1 &&& mR0 = 0 := by decide +kernel
theorem pt_lamps {g : pH} (hG : g_I eG g) (hx : xL g) (hR : R0 g) (x1 : Int32) : pr_ R0 128 211 [.inl x1] 0 true g := by
  unfold pr_
  refine cla_run (i := x1.toInt) (by decide) (by decide) hG hx (i32_b _) (fun g1 G1 X1 M1 z1 => ?_) (fun g1 G1 X1 M1 e1 z1 => ?_) rfl (congrArg some (oI_r x1))
  all_goals
    have Q1 := R0_f M1 mh_2 hR
    refine ⟨_, rfl, rfl, mla_run (i := x1.toInt) (by decide) (by decide) G1 X1 (i32_b _) (fun g2 G2 X2 M2 z2 => ?_) (fun g2 G2 X2 M2 e2 z2 => ?_) rfl (congrArg some (oI_r x1))⟩
  · exact ⟨_, rfl, rfl, G2, X2, R0_f M2 mh_3 Q1, fun _ => rfl⟩
  · exfalso; omega
  · exfalso; omega
  · exact ⟨_, rfl, rfl, G2, X2, R0_f M2 mh_3 Q1, fun _ => rfl⟩
theorem mh_4 : kcse_a.2.2.2.1 &&& mR0 = 0 := by decide +kernel
theorem mh_5 : kmse_a.2.2.2.1 &&& mR0 = 0 := by decide +kernel
theorem pt_seed {g : pH} (hG : g_I eG g) (hx : xL g) (hR : R0 g) (x1 : Int32) : pr_ R0 144 245 [.inl x1] 0 true g := by
  unfold pr_
  refine cse_run (i := x1.toInt) (by decide) (by decide) hG hx (i32_b _) (fun g1 G1 X1 M1 z1 => ?_) (fun g1 G1 X1 M1 e1 z1 => ?_) rfl (congrArg some (oI_r x1))
  all_goals
    have Q1 := R0_f M1 mh_4 hR
    refine ⟨_, rfl, rfl, mse_run (i := x1.toInt) (by decide) (by decide) G1 X1 (i32_b _) (fun g2 G2 X2 M2 z2 => ?_) (fun g2 G2 X2 M2 e2 z2 => ?_) rfl (congrArg some (oI_r x1))⟩
  · exact ⟨_, rfl, rfl, G2, X2, R0_f M2 mh_5 Q1, fun _ => rfl⟩
  · exfalso; omega
  · exfalso; omega
  · exact ⟨_, rfl, rfl, G2, X2, R0_f M2 mh_5 Q1, fun _ => rfl⟩
