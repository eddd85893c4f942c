/-! the tie: ops of the reference that ask for a told slide (printed by wip/e2/t3.py) -/
theorem qmch_0 : xe_look (xc 174) 0 = some (.aload_n 0, 1, 0, 0, 0) := by decide +kernel
theorem qmch_1 : xe_look (xc 174) 1 = some (.iload_n 1, 1, 0, 0, 0) := by decide +kernel
theorem qmch_2 : xe_look (xc 174) 2 = some (.invokevirtual 205, 3, 0, 205, 1130) := by decide +kernel
theorem qmch_5 : xe_look (xc 174) 5 = some (.ifCond .eq 21, 3, 0, 0, 0) := by decide +kernel
theorem qmch_26 : xe_look (xc 174) 26 = some (.bipush (-2), 2, 0, 0, 0) := by decide +kernel
theorem qmch_28 : xe_look (xc 174) 28 = some (.ireturn, 1, 0, 0, 0) := by decide +kernel
theorem qmda_0 : xe_look (xc 183) 0 = some (.aload_n 0, 1, 0, 0, 0) := by decide +kernel
theorem qmda_1 : xe_look (xc 183) 1 = some (.iload_n 1, 1, 0, 0, 0) := by decide +kernel
theorem qmda_2 : xe_look (xc 183) 2 = some (.invokevirtual 205, 3, 0, 205, 1130) := by decide +kernel
theorem qmda_5 : xe_look (xc 183) 5 = some (.ifCond .eq 13, 3, 0, 0, 0) := by decide +kernel
theorem qmda_18 : xe_look (xc 183) 18 = some (.iconst 0, 1, 0, 0, 0) := by decide +kernel
theorem qmda_19 : xe_look (xc 183) 19 = some (.ireturn, 1, 0, 0, 0) := by decide +kernel
theorem qmod_0 : xe_look (xc 228) 0 = some (.aload_n 0, 1, 0, 0, 0) := by decide +kernel
theorem qmod_1 : xe_look (xc 228) 1 = some (.iload_n 1, 1, 0, 0, 0) := by decide +kernel
theorem qmod_2 : xe_look (xc 228) 2 = some (.invokevirtual 205, 3, 0, 205, 1130) := by decide +kernel
theorem qmod_5 : xe_look (xc 228) 5 = some (.ifCond .eq 40, 3, 0, 0, 0) := by decide +kernel
theorem qmod_45 : xe_look (xc 228) 45 = some (.iconst (-1), 1, 0, 0, 0) := by decide +kernel
theorem qmod_46 : xe_look (xc 228) 46 = some (.ireturn, 1, 0, 0, 0) := by decide +kernel
theorem qmpu_0 : xe_look (xc 231) 0 = some (.aload_n 0, 1, 0, 0, 0) := by decide +kernel
theorem qmpu_1 : xe_look (xc 231) 1 = some (.iload_n 1, 1, 0, 0, 0) := by decide +kernel
theorem qmpu_2 : xe_look (xc 231) 2 = some (.invokevirtual 205, 3, 0, 205, 1130) := by decide +kernel
theorem qmpu_5 : xe_look (xc 231) 5 = some (.ifCond .eq 10, 3, 0, 0, 0) := by decide +kernel
theorem qmpu_15 : xe_look (xc 231) 15 = some (.iconst 0, 1, 0, 0, 0) := by decide +kernel
theorem qmpu_16 : xe_look (xc 231) 16 = some (.ireturn, 1, 0, 0, 0) := by decide +kernel
theorem qmsu_0 : xe_look (xc 258) 0 = some (.aload_n 0, 1, 0, 0, 0) := by decide +kernel
theorem qmsu_1 : xe_look (xc 258) 1 = some (.iload_n 1, 1, 0, 0, 0) := by decide +kernel
theorem qmsu_2 : xe_look (xc 258) 2 = some (.invokevirtual 205, 3, 0, 205, 1130) := by decide +kernel
theorem qmsu_5 : xe_look (xc 258) 5 = some (.ifCond .eq 12, 3, 0, 0, 0) := by decide +kernel
theorem qmsu_17 : xe_look (xc 258) 17 = some (.iconst 0, 1, 0, 0, 0) := by decide +kernel
theorem qmsu_18 : xe_look (xc 258) 18 = some (.ireturn, 1, 0, 0, 0) := by decide +kernel
theorem cb_m17 {g : pH} (hG : g_I eG g) : 0 ≤ cF g 196 17 ∧ cF g 196 17 ≤ 260 := gb_f hG (y := 17) rfl rfl gf_17
def kmpu_1 : eK := (231, (2, [(0, 2, (0, 100000, [197])), (1, 0, (0, 31, [])), (2, 0, ((-2147483648), (-1), []))], [], []), (0, []), 0, [(some (0, (0, 0, [])), [], [])])
theorem empu_1 : ex_mid eG eKT eDX 4000 kmpu_1 [] 8 = true := by decide +kernel
def kmpu_2 : eK := (231, (2, [(0, 2, (0, 100000, [197])), (1, 0, (0, 31, [])), (2, 0, (8, 2147483647, []))], [], []), (0, []), 0, [(some (0, (0, 0, [])), [], [])])
theorem empu_2 : ex_mid eG eKT eDX 4000 kmpu_2 [] 8 = true := by decide +kernel
def kmpu_a : eK := (231, (2, [(0, 2, (0, 100000, [197])), (1, 0, (0, 31, [])), (2, 0, (0, 7, []))], [], []), (0, []), 38981256045599996321413529551500753243504907430380030107471625828851794763065704409862460263528041036901219664925634672733836679460812376186311949185250613678125110799825892119483158621960214593411198373916873515494742391701579499782985454461875862451310955212417110188327314359967656443904, [(some (0, (1, 1, [])), [], [])])
theorem empu_a : ex_mid eG eKT eDX 4000 kmpu_a [] 8 = true := by decide +kernel
def kmda_1 : eK := (183, (2, [(0, 2, (0, 100000, [197])), (1, 0, (0, 31, [])), (2, 0, ((-2147483648), (-1), []))], [], []), (0, []), 0, [(some (0, (0, 0, [])), [], [])])
theorem emda_1 : ex_mid eG eKT eDX 4000 kmda_1 [] 8 = true := by decide +kernel
def kmda_2 : eK := (183, (2, [(0, 2, (0, 100000, [197])), (1, 0, (0, 31, [])), (2, 0, (100, 2147483647, []))], [], []), (0, []), 0, [(some (0, (0, 0, [])), [], [])])
theorem emda_2 : ex_mid eG eKT eDX 4000 kmda_2 [] 8 = true := by decide +kernel
def kmda_a : eK := (183, (2, [(0, 2, (0, 100000, [197])), (1, 0, (0, 31, [])), (2, 0, (0, 99, []))], [], []), (0, []), 1247400193459199882285232945648024103792157037772160963439092026523257432418102541115598728432897313180839029277620309527482773742745996037961982373928019637700003545594428547823461075902726866989158347965339952495831756534450543993055534542780027598441950566797347526026474059518965006204928, [(some (0, (1, 1, [])), [], [])])
theorem emda_a : ex_mid eG eKT eDX 4000 kmda_a [] 8 = true := by decide +kernel
def kmsu_1 : eK := (258, (2, [(0, 2, (0, 100000, [197])), (1, 0, (0, 31, [])), (2, 0, ((-2147483648), (-1), []))], [], []), (0, []), 0, [(some (0, (0, 0, [])), [], [])])
theorem emsu_1 : ex_mid eG eKT eDX 4000 kmsu_1 [] 8 = true := by decide +kernel
def kmsu_2 : eK := (258, (2, [(0, 2, (0, 100000, [197])), (1, 0, (0, 31, [])), (2, 0, (4, 2147483647, []))], [], []), (0, []), 0, [(some (0, (0, 0, [])), [], [])])
theorem emsu_2 : ex_mid eG eKT eDX 4000 kmsu_2 [] 8 = true := by decide +kernel
def kmsu_a : eK := (258, (2, [(0, 2, (0, 100000, [197])), (1, 0, (0, 31, [])), (2, 0, (0, 3, []))], [], []), (0, []), 9979201547673599058281863565184192830337256302177287707512736212186059459344820328924789827463178505446712234220962476219862189941967968303695858991424157101600028364755428382587688607221814935913266783722719619966654052275604351944444276342240220787535604534378780208211792476151720049639424, [(some (0, (1, 1, [])), [], [])])
theorem emsu_a : ex_mid eG eKT eDX 4000 kmsu_a [] 8 = true := by decide +kernel
def kmod_1 : eK := (228, (11, [(0, 2, (0, 100000, [197])), (1, 0, (0, 31, [])), (2, 0, ((-2147483648), (-1), [])), (3, 0, ((-2147483648), 2147483647, [])), (4, 0, ((-2147483648), 2147483647, []))], [], []), (0, []), 0, [(some (0, ((-1), (-1), [])), [], [])])
theorem emod_1 : ex_mid eG eKT eDX 4000 kmod_1 [] 8 = true := by decide +kernel
def kmod_2 : eK := (228, (11, [(0, 2, (0, 100000, [197])), (1, 0, (0, 31, [])), (2, 0, (8, 2147483647, [])), (3, 0, ((-2147483648), 2147483647, [])), (4, 0, ((-2147483648), 2147483647, []))], [], []), (0, []), 0, [(some (0, ((-1), (-1), [])), [], [])])
theorem emod_2 : ex_mid eG eKT eDX 4000 kmod_2 [] 8 = true := by decide +kernel
def kmod_3 : eK := (228, (11, [(0, 2, (0, 100000, [197])), (1, 0, (0, 31, [])), (2, 0, ((-2147483648), 2147483647, [])), (3, 0, ((-2147483648), (-1), [])), (4, 0, ((-2147483648), 2147483647, []))], [], []), (0, []), 0, [(some (0, ((-1), (-1), [])), [], [])])
theorem emod_3 : ex_mid eG eKT eDX 4000 kmod_3 [] 8 = true := by decide +kernel
def kmod_4 : eK := (228, (11, [(0, 2, (0, 100000, [197])), (1, 0, (0, 31, [])), (2, 0, ((-2147483648), 2147483647, [])), (3, 0, (9, 2147483647, [])), (4, 0, ((-2147483648), 2147483647, []))], [], []), (0, []), 0, [(some (0, ((-1), (-1), [])), [], [])])
theorem emod_4 : ex_mid eG eKT eDX 4000 kmod_4 [] 8 = true := by decide +kernel
def kmod_5 : eK := (228, (11, [(0, 2, (0, 100000, [197])), (1, 0, (0, 31, [])), (2, 0, ((-2147483648), 2147483647, [])), (3, 0, ((-2147483648), 2147483647, [])), (4, 0, ((-2147483648), (-1), []))], [], []), (0, []), 0, [(some (0, ((-1), (-1), [])), [], [])])
theorem emod_5 : ex_mid eG eKT eDX 4000 kmod_5 [] 8 = true := by decide +kernel
def kmod_6 : eK := (228, (11, [(0, 2, (0, 100000, [197])), (1, 0, (0, 31, [])), (2, 0, ((-2147483648), 2147483647, [])), (3, 0, ((-2147483648), 2147483647, [])), (4, 0, (2, 2147483647, []))], [], []), (0, []), 0, [(some (0, ((-1), (-1), [])), [], [])])
theorem emod_6 : ex_mid eG eKT eDX 4000 kmod_6 [] 8 = true := by decide +kernel
def kmod_7 : eK := (228, (11, [(0, 2, (0, 100000, [197])), (1, 0, (0, 31, [])), (2, 0, (0, 7, [])), (3, 0, (0, 8, [])), (4, 0, (0, 1, []))], [(196, 17, 0, (0, 260, []))], [(1, [(4, (-3)), (6, 1)])]), (0, []), 0, [(some (0, ((-1), (-1), [])), [], [])])
theorem emod_7 : ex_mid eG eKT eDX 4000 kmod_7 [] 8 = true := by decide +kernel
def kmod_a : eK := (228, (11, [(0, 2, (0, 100000, [197])), (1, 0, (0, 31, [])), (2, 0, (0, 7, [])), (3, 0, (0, 8, [])), (4, 0, (0, 1, []))], [(196, 17, 0, (0, 260, []))], [(0, [(4, 3), (6, (-1))])]), (0, []), 292990634777494970571834974352348372376408625585468973439970157106006294036709378193625556400456107096627892788858082469823732360836919265007338114375967923135394452323609835843376750447618807681694051895467432765314165788101161802265528242184952095541343275262826062372736495681724022597743106064384, [(some (0, ((-2147483648), 2147483647, [])), [(196, 17, 0, (0, 0, []))], [])])
theorem emod_a : ex_mid eG eKT eDX 4000 kmod_a kc_29 8 = true := by decide +kernel
def kmch_1 : eK := (174, (2, [(0, 2, (0, 100000, [197])), (1, 0, (0, 31, [])), (2, 0, ((-2147483648), (-1), []))], [], []), (0, []), 0, [(some (0, ((-2), (-2), [])), [], [])])
theorem emch_1 : ex_mid eG eKT eDX 4000 kmch_1 [] 8 = true := by decide +kernel
def kmch_2 : eK := (174, (2, [(0, 2, (0, 100000, [197])), (1, 0, (0, 31, [])), (2, 0, (26, 2147483647, []))], [], []), (0, []), 0, [(some (0, ((-2), (-2), [])), [], [])])
theorem emch_2 : ex_mid eG eKT eDX 4000 kmch_2 [] 8 = true := by decide +kernel
def kmch_3 : eK := (174, (2, [(0, 2, (0, 100000, [197])), (1, 0, (0, 31, [])), (2, 0, (0, 25, []))], [(196, 17, 0, (0, 260, []))], [(1, [(3, (-1)), (4, 1)])]), (0, []), 0, [(some (0, ((-2), (-2), [])), [], [])])
theorem emch_3 : ex_mid eG eKT eDX 4000 kmch_3 [] 8 = true := by decide +kernel
def kmch_a : eK := (174, (2, [(0, 2, (0, 100000, [197])), (1, 0, (0, 31, [])), (2, 0, (0, 25, []))], [(196, 17, 0, (0, 260, []))], [(0, [(3, 1), (4, (-1))])]), (0, []), 4127301024497384737127654569660285988428494734657199391624693039270889863724412964643884811622321780427143710884821317803768340308614730759769835769241715444596770968742227220068214981847081570726751819595399909407406471037121576084674975771617472472574520163263578112, [(some (0, ((-2147483648), 2147483647, [])), [(196, 17, 0, (0, 0, []))], [])])
theorem emch_a : ex_mid eG eKT eDX 4000 kmch_a kc_62 8 = true := by decide +kernel
set_option maxHeartbeats 2000000 in
theorem mpu_run {d : Nat} (hd : 2 ≤ d) (hd2 : d ≤ 1000000) {g : pH} (hG : g_I eG g) (hx : xL g) {i w : Int} (hi : -2147483648 ≤ i ∧ i ≤ 2147483647) (hw : -2147483648 ≤ w ∧ w ≤ 2147483647) {P : Option pv × pH → Prop} (hA : ∀ (g1 : pH), g_I eG g1 → xL g1 → f_M kmpu_a.2.2.2.1 g g1 → toM g i ∧ (0 ≤ w ∧ w ≤ 7) → P (some (oI 1), g1)) (hR : ∀ (g1 : pH), g_I eG g1 → xL g1 → f_M kmpu_a.2.2.2.1 g g1 → (∀ u v, cF g1 u v = cF g u v) → ¬ (toM g i ∧ (0 ≤ w ∧ w ≤ 7)) → P (some (oI 0), g1)) {lv : List (Nat × pv)} (l0 : px_lg lv 0 = some (pvR 196)) (l1 : px_lg lv 1 = some (oI i)) (l2 : px_lg lv 2 = some (oI w)) : t_X d 231 0 lv [] g P := by
  have hJ : J_ 0 g g := J_rf hG
  have hb := cb_m17 hG
  refine t_0 qmpu_0 rfl (ld_a l0) ?_
  refine t_0 qmpu_1 rfl (ld_i l1) ?_
  refine t_3 qmpu_2 rfl (ar := ([pvR 196, oI (i)], [])) (pcal_v1 rfl rfl el_196) ⟨by omega, Nat.le_of_ble_eq_true rfl, Nat.le_of_ble_eq_true rfl, rfl⟩ ?_
  refine it_run (by omega) (by omega) rfl rfl (fun m hm e1 c0 => ?_) (fun c0 => ?_)
  · show t_X d 231 5 lv [oI (1)] g P
    refine tz_eq qmpu_5 (by decide) ⟨by omega, by omega⟩ (fun c1 => absurd c1 (by omega)) (fun c1 => ?_)
    show t_X d 231 8 lv [] g P
    by_cases a0 : w < 0
    · refine mid_L (k := kmpu_1) empu_1 hG hx (xs := [cv (pvR 196), cv (oI i), cv (oI w)]) (ys := []) ⟨by show 2 ≤ _; omega, ⟨⟨pvR 196, l0, rfl, rfl, ok_this⟩, ⟨oI i, l1, rfl, rfl, ok_oI (by omega) (by decide) (by decide)⟩, ⟨oI w, l2, rfl, rfl, ok_oI (by omega) (by decide) (by decide)⟩, trivial⟩, trivial, fun c hc => absurd hc List.not_mem_nil⟩ (by omega) (fun o G1 X1 M1 P1 => ?_)
      obtain ⟨o1, o2⟩ := o
      obtain ⟨rfl, -⟩ := po_c P1
      exact hR _ G1 X1 (f_M_0 M1) (fun u v => cF_M0 M1 u v) (fun z => by have z1 := z.2; omega)
    · skip
      by_cases a1 : 7 < w
      · refine mid_L (k := kmpu_2) empu_2 hG hx (xs := [cv (pvR 196), cv (oI i), cv (oI w)]) (ys := []) ⟨by show 2 ≤ _; omega, ⟨⟨pvR 196, l0, rfl, rfl, ok_this⟩, ⟨oI i, l1, rfl, rfl, ok_oI (by omega) (by decide) (by decide)⟩, ⟨oI w, l2, rfl, rfl, ok_oI (by omega) (by decide) (by decide)⟩, trivial⟩, trivial, fun c hc => absurd hc List.not_mem_nil⟩ (by omega) (fun o G1 X1 M1 P1 => ?_)
        obtain ⟨o1, o2⟩ := o
        obtain ⟨rfl, -⟩ := po_c P1
        exact hR _ G1 X1 (f_M_0 M1) (fun u v => cF_M0 M1 u v) (fun z => by have z1 := z.2; omega)
      · skip
        refine mid_L (k := kmpu_a) empu_a hG hx (xs := [cv (pvR 196), cv (oI i), cv (oI w)]) (ys := []) ⟨by show 2 ≤ _; omega, ⟨⟨pvR 196, l0, rfl, rfl, ok_this⟩, ⟨oI i, l1, rfl, rfl, ok_oI (by omega) (by decide) (by decide)⟩, ⟨oI w, l2, rfl, rfl, ok_oI (by omega) (by decide) (by decide)⟩, trivial⟩, trivial, fun c hc => absurd hc List.not_mem_nil⟩ (by omega) (fun o G1 X1 M1 P1 => ?_)
        obtain ⟨o1, o2⟩ := o
        obtain ⟨rfl, ys, hF⟩ := po_c P1
        exact hA _ G1 X1 M1 ⟨⟨m, hm, e1, c0⟩, by omega⟩
  · show t_X d 231 5 lv [oI (0)] g P
    refine tz_eq qmpu_5 (by decide) ⟨by omega, by omega⟩ (fun c2 => ?_) (fun c2 => absurd c2 (by omega))
    show t_X d 231 15 lv [] g P
    refine t_0 qmpu_15 rfl rfl ?_
    refine t_5 qmpu_16 rfl rfl ?_
    exact hR _ hG hx (f_M_rf _ _) (fun _ _ => rfl) (fun z => c0 z.1)
set_option maxHeartbeats 2000000 in
theorem mda_run {d : Nat} (hd : 2 ≤ d) (hd2 : d ≤ 1000000) {g : pH} (hG : g_I eG g) (hx : xL g) {i w : Int} (hi : -2147483648 ≤ i ∧ i ≤ 2147483647) (hw : -2147483648 ≤ w ∧ w ≤ 2147483647) {P : Option pv × pH → Prop} (hA : ∀ (g1 : pH), g_I eG g1 → xL g1 → f_M kmda_a.2.2.2.1 g g1 → toM g i ∧ (0 ≤ w ∧ w ≤ 99) → P (some (oI 1), g1)) (hR : ∀ (g1 : pH), g_I eG g1 → xL g1 → f_M kmda_a.2.2.2.1 g g1 → (∀ u v, cF g1 u v = cF g u v) → ¬ (toM g i ∧ (0 ≤ w ∧ w ≤ 99)) → P (some (oI 0), g1)) {lv : List (Nat × pv)} (l0 : px_lg lv 0 = some (pvR 196)) (l1 : px_lg lv 1 = some (oI i)) (l2 : px_lg lv 2 = some (oI w)) : t_X d 183 0 lv [] g P := by
  have hJ : J_ 0 g g := J_rf hG
  have hb := cb_m17 hG
  refine t_0 qmda_0 rfl (ld_a l0) ?_
  refine t_0 qmda_1 rfl (ld_i l1) ?_
  refine t_3 qmda_2 rfl (ar := ([pvR 196, oI (i)], [])) (pcal_v1 rfl rfl el_196) ⟨by omega, Nat.le_of_ble_eq_true rfl, Nat.le_of_ble_eq_true rfl, rfl⟩ ?_
  refine it_run (by omega) (by omega) rfl rfl (fun m hm e1 c0 => ?_) (fun c0 => ?_)
  · show t_X d 183 5 lv [oI (1)] g P
    refine tz_eq qmda_5 (by decide) ⟨by omega, by omega⟩ (fun c1 => absurd c1 (by omega)) (fun c1 => ?_)
    show t_X d 183 8 lv [] g P
    by_cases a0 : w < 0
    · refine mid_L (k := kmda_1) emda_1 hG hx (xs := [cv (pvR 196), cv (oI i), cv (oI w)]) (ys := []) ⟨by show 2 ≤ _; omega, ⟨⟨pvR 196, l0, rfl, rfl, ok_this⟩, ⟨oI i, l1, rfl, rfl, ok_oI (by omega) (by decide) (by decide)⟩, ⟨oI w, l2, rfl, rfl, ok_oI (by omega) (by decide) (by decide)⟩, trivial⟩, trivial, fun c hc => absurd hc List.not_mem_nil⟩ (by omega) (fun o G1 X1 M1 P1 => ?_)
      obtain ⟨o1, o2⟩ := o
      obtain ⟨rfl, -⟩ := po_c P1
      exact hR _ G1 X1 (f_M_0 M1) (fun u v => cF_M0 M1 u v) (fun z => by have z1 := z.2; omega)
    · skip
      by_cases a1 : 99 < w
      · refine mid_L (k := kmda_2) emda_2 hG hx (xs := [cv (pvR 196), cv (oI i), cv (oI w)]) (ys := []) ⟨by show 2 ≤ _; omega, ⟨⟨pvR 196, l0, rfl, rfl, ok_this⟩, ⟨oI i, l1, rfl, rfl, ok_oI (by omega) (by decide) (by decide)⟩, ⟨oI w, l2, rfl, rfl, ok_oI (by omega) (by decide) (by decide)⟩, trivial⟩, trivial, fun c hc => absurd hc List.not_mem_nil⟩ (by omega) (fun o G1 X1 M1 P1 => ?_)
        obtain ⟨o1, o2⟩ := o
        obtain ⟨rfl, -⟩ := po_c P1
        exact hR _ G1 X1 (f_M_0 M1) (fun u v => cF_M0 M1 u v) (fun z => by have z1 := z.2; omega)
      · skip
        refine mid_L (k := kmda_a) emda_a hG hx (xs := [cv (pvR 196), cv (oI i), cv (oI w)]) (ys := []) ⟨by show 2 ≤ _; omega, ⟨⟨pvR 196, l0, rfl, rfl, ok_this⟩, ⟨oI i, l1, rfl, rfl, ok_oI (by omega) (by decide) (by decide)⟩, ⟨oI w, l2, rfl, rfl, ok_oI (by omega) (by decide) (by decide)⟩, trivial⟩, trivial, fun c hc => absurd hc List.not_mem_nil⟩ (by omega) (fun o G1 X1 M1 P1 => ?_)
        obtain ⟨o1, o2⟩ := o
        obtain ⟨rfl, ys, hF⟩ := po_c P1
        exact hA _ G1 X1 M1 ⟨⟨m, hm, e1, c0⟩, by omega⟩
  · show t_X d 183 5 lv [oI (0)] g P
    refine tz_eq qmda_5 (by decide) ⟨by omega, by omega⟩ (fun c2 => ?_) (fun c2 => absurd c2 (by omega))
    show t_X d 183 18 lv [] g P
    refine t_0 qmda_18 rfl rfl ?_
    refine t_5 qmda_19 rfl rfl ?_
    exact hR _ hG hx (f_M_rf _ _) (fun _ _ => rfl) (fun z => c0 z.1)
set_option maxHeartbeats 2000000 in
theorem msu_run {d : Nat} (hd : 2 ≤ d) (hd2 : d ≤ 1000000) {g : pH} (hG : g_I eG g) (hx : xL g) {i w : Int} (hi : -2147483648 ≤ i ∧ i ≤ 2147483647) (hw : -2147483648 ≤ w ∧ w ≤ 2147483647) {P : Option pv × pH → Prop} (hA : ∀ (g1 : pH), g_I eG g1 → xL g1 → f_M kmsu_a.2.2.2.1 g g1 → toM g i ∧ (0 ≤ w ∧ w ≤ 3) → P (some (oI 1), g1)) (hR : ∀ (g1 : pH), g_I eG g1 → xL g1 → f_M kmsu_a.2.2.2.1 g g1 → (∀ u v, cF g1 u v = cF g u v) → ¬ (toM g i ∧ (0 ≤ w ∧ w ≤ 3)) → P (some (oI 0), g1)) {lv : List (Nat × pv)} (l0 : px_lg lv 0 = some (pvR 196)) (l1 : px_lg lv 1 = some (oI i)) (l2 : px_lg lv 2 = some (oI w)) : t_X d 258 0 lv [] g P := by
  have hJ : J_ 0 g g := J_rf hG
  have hb := cb_m17 hG
  refine t_0 qmsu_0 rfl (ld_a l0) ?_
  refine t_0 qmsu_1 rfl (ld_i l1) ?_
  refine t_3 qmsu_2 rfl (ar := ([pvR 196, oI (i)], [])) (pcal_v1 rfl rfl el_196) ⟨by omega, Nat.le_of_ble_eq_true rfl, Nat.le_of_ble_eq_true rfl, rfl⟩ ?_
  refine it_run (by omega) (by omega) rfl rfl (fun m hm e1 c0 => ?_) (fun c0 => ?_)
  · show t_X d 258 5 lv [oI (1)] g P
    refine tz_eq qmsu_5 (by decide) ⟨by omega, by omega⟩ (fun c1 => absurd c1 (by omega)) (fun c1 => ?_)
    show t_X d 258 8 lv [] g P
    by_cases a0 : w < 0
    · refine mid_L (k := kmsu_1) emsu_1 hG hx (xs := [cv (pvR 196), cv (oI i), cv (oI w)]) (ys := []) ⟨by show 2 ≤ _; omega, ⟨⟨pvR 196, l0, rfl, rfl, ok_this⟩, ⟨oI i, l1, rfl, rfl, ok_oI (by omega) (by decide) (by decide)⟩, ⟨oI w, l2, rfl, rfl, ok_oI (by omega) (by decide) (by decide)⟩, trivial⟩, trivial, fun c hc => absurd hc List.not_mem_nil⟩ (by omega) (fun o G1 X1 M1 P1 => ?_)
      obtain ⟨o1, o2⟩ := o
      obtain ⟨rfl, -⟩ := po_c P1
      exact hR _ G1 X1 (f_M_0 M1) (fun u v => cF_M0 M1 u v) (fun z => by have z1 := z.2; omega)
    · skip
      by_cases a1 : 3 < w
      · refine mid_L (k := kmsu_2) emsu_2 hG hx (xs := [cv (pvR 196), cv (oI i), cv (oI w)]) (ys := []) ⟨by show 2 ≤ _; omega, ⟨⟨pvR 196, l0, rfl, rfl, ok_this⟩, ⟨oI i, l1, rfl, rfl, ok_oI (by omega) (by decide) (by decide)⟩, ⟨oI w, l2, rfl, rfl, ok_oI (by omega) (by decide) (by decide)⟩, trivial⟩, trivial, fun c hc => absurd hc List.not_mem_nil⟩ (by omega) (fun o G1 X1 M1 P1 => ?_)
        obtain ⟨o1, o2⟩ := o
        obtain ⟨rfl, -⟩ := po_c P1
        exact hR _ G1 X1 (f_M_0 M1) (fun u v => cF_M0 M1 u v) (fun z => by have z1 := z.2; omega)
      · skip
        refine mid_L (k := kmsu_a) emsu_a hG hx (xs := [cv (pvR 196), cv (oI i), cv (oI w)]) (ys := []) ⟨by show 2 ≤ _; omega, ⟨⟨pvR 196, l0, rfl, rfl, ok_this⟩, ⟨oI i, l1, rfl, rfl, ok_oI (by omega) (by decide) (by decide)⟩, ⟨oI w, l2, rfl, rfl, ok_oI (by omega) (by decide) (by decide)⟩, trivial⟩, trivial, fun c hc => absurd hc List.not_mem_nil⟩ (by omega) (fun o G1 X1 M1 P1 => ?_)
        obtain ⟨o1, o2⟩ := o
        obtain ⟨rfl, ys, hF⟩ := po_c P1
        exact hA _ G1 X1 M1 ⟨⟨m, hm, e1, c0⟩, by omega⟩
  · show t_X d 258 5 lv [oI (0)] g P
    refine tz_eq qmsu_5 (by decide) ⟨by omega, by omega⟩ (fun c2 => ?_) (fun c2 => absurd c2 (by omega))
    show t_X d 258 17 lv [] g P
    refine t_0 qmsu_17 rfl rfl ?_
    refine t_5 qmsu_18 rfl rfl ?_
    exact hR _ hG hx (f_M_rf _ _) (fun _ _ => rfl) (fun z => c0 z.1)
set_option maxHeartbeats 2000000 in
theorem mod_run {d : Nat} (hd : 11 ≤ d) (hd2 : d ≤ 1000000) {g : pH} (hG : g_I eG g) (hx : xL g) {i w n q : Int} (hi : -2147483648 ≤ i ∧ i ≤ 2147483647) (hw : -2147483648 ≤ w ∧ w ≤ 2147483647) (hn : -2147483648 ≤ n ∧ n ≤ 2147483647) (hq : -2147483648 ≤ q ∧ q ≤ 2147483647) {P : Option pv × pH → Prop} (hA : ∀ (v : Int32) (g1 : pH), g_I eG g1 → xL g1 → f_M kmod_a.2.2.2.1 g g1 → cF g1 196 17 = 0 → toM g i ∧ (0 ≤ w ∧ w ≤ 7) ∧ (0 ≤ n ∧ n ≤ 8) ∧ (0 ≤ q ∧ q ≤ 1) ∧ 3 * n ≤ cF g 196 17 → P (some (.inl v), g1)) (hR : ∀ (g1 : pH), g_I eG g1 → xL g1 → f_M kmod_a.2.2.2.1 g g1 → (∀ u v, cF g1 u v = cF g u v) → ¬ (toM g i ∧ (0 ≤ w ∧ w ≤ 7) ∧ (0 ≤ n ∧ n ≤ 8) ∧ (0 ≤ q ∧ q ≤ 1) ∧ 3 * n ≤ cF g 196 17) → P (some (oI (-1)), g1)) {lv : List (Nat × pv)} (l0 : px_lg lv 0 = some (pvR 196)) (l1 : px_lg lv 1 = some (oI i)) (l2 : px_lg lv 2 = some (oI w)) (l3 : px_lg lv 3 = some (oI n)) (l4 : px_lg lv 4 = some (oI q)) : t_X d 228 0 lv [] g P := by
  have hJ : J_ 0 g g := J_rf hG
  have hb := cb_m17 hG
  refine t_0 qmod_0 rfl (ld_a l0) ?_
  refine t_0 qmod_1 rfl (ld_i l1) ?_
  refine t_3 qmod_2 rfl (ar := ([pvR 196, oI (i)], [])) (pcal_v1 rfl rfl el_196) ⟨by omega, Nat.le_of_ble_eq_true rfl, Nat.le_of_ble_eq_true rfl, rfl⟩ ?_
  refine it_run (by omega) (by omega) rfl rfl (fun m hm e1 c0 => ?_) (fun c0 => ?_)
  · show t_X d 228 5 lv [oI (1)] g P
    refine tz_eq qmod_5 (by decide) ⟨by omega, by omega⟩ (fun c1 => absurd c1 (by omega)) (fun c1 => ?_)
    show t_X d 228 8 lv [] g P
    by_cases a0 : w < 0
    · refine mid_L (k := kmod_1) emod_1 hG hx (xs := [cv (pvR 196), cv (oI i), cv (oI w), cv (oI n), cv (oI q)]) (ys := []) ⟨by show 11 ≤ _; omega, ⟨⟨pvR 196, l0, rfl, rfl, ok_this⟩, ⟨oI i, l1, rfl, rfl, ok_oI (by omega) (by decide) (by decide)⟩, ⟨oI w, l2, rfl, rfl, ok_oI (by omega) (by decide) (by decide)⟩, ⟨oI n, l3, rfl, rfl, ok_full32 _⟩, ⟨oI q, l4, rfl, rfl, ok_full32 _⟩, trivial⟩, trivial, fun c hc => absurd hc List.not_mem_nil⟩ (by omega) (fun o G1 X1 M1 P1 => ?_)
      obtain ⟨o1, o2⟩ := o
      obtain ⟨rfl, -⟩ := po_c P1
      exact hR _ G1 X1 (f_M_0 M1) (fun u v => cF_M0 M1 u v) (fun z => by have z1 := z.2; omega)
    · skip
      by_cases a1 : 7 < w
      · refine mid_L (k := kmod_2) emod_2 hG hx (xs := [cv (pvR 196), cv (oI i), cv (oI w), cv (oI n), cv (oI q)]) (ys := []) ⟨by show 11 ≤ _; omega, ⟨⟨pvR 196, l0, rfl, rfl, ok_this⟩, ⟨oI i, l1, rfl, rfl, ok_oI (by omega) (by decide) (by decide)⟩, ⟨oI w, l2, rfl, rfl, ok_oI (by omega) (by decide) (by decide)⟩, ⟨oI n, l3, rfl, rfl, ok_full32 _⟩, ⟨oI q, l4, rfl, rfl, ok_full32 _⟩, trivial⟩, trivial, fun c hc => absurd hc List.not_mem_nil⟩ (by omega) (fun o G1 X1 M1 P1 => ?_)
        obtain ⟨o1, o2⟩ := o
        obtain ⟨rfl, -⟩ := po_c P1
        exact hR _ G1 X1 (f_M_0 M1) (fun u v => cF_M0 M1 u v) (fun z => by have z1 := z.2; omega)
      · skip
        by_cases a2 : n < 0
        · refine mid_L (k := kmod_3) emod_3 hG hx (xs := [cv (pvR 196), cv (oI i), cv (oI w), cv (oI n), cv (oI q)]) (ys := []) ⟨by show 11 ≤ _; omega, ⟨⟨pvR 196, l0, rfl, rfl, ok_this⟩, ⟨oI i, l1, rfl, rfl, ok_oI (by omega) (by decide) (by decide)⟩, ⟨oI w, l2, rfl, rfl, ok_full32 _⟩, ⟨oI n, l3, rfl, rfl, ok_oI (by omega) (by decide) (by decide)⟩, ⟨oI q, l4, rfl, rfl, ok_full32 _⟩, trivial⟩, trivial, fun c hc => absurd hc List.not_mem_nil⟩ (by omega) (fun o G1 X1 M1 P1 => ?_)
          obtain ⟨o1, o2⟩ := o
          obtain ⟨rfl, -⟩ := po_c P1
          exact hR _ G1 X1 (f_M_0 M1) (fun u v => cF_M0 M1 u v) (fun z => by have z1 := z.2; omega)
        · skip
          by_cases a3 : 8 < n
          · refine mid_L (k := kmod_4) emod_4 hG hx (xs := [cv (pvR 196), cv (oI i), cv (oI w), cv (oI n), cv (oI q)]) (ys := []) ⟨by show 11 ≤ _; omega, ⟨⟨pvR 196, l0, rfl, rfl, ok_this⟩, ⟨oI i, l1, rfl, rfl, ok_oI (by omega) (by decide) (by decide)⟩, ⟨oI w, l2, rfl, rfl, ok_full32 _⟩, ⟨oI n, l3, rfl, rfl, ok_oI (by omega) (by decide) (by decide)⟩, ⟨oI q, l4, rfl, rfl, ok_full32 _⟩, trivial⟩, trivial, fun c hc => absurd hc List.not_mem_nil⟩ (by omega) (fun o G1 X1 M1 P1 => ?_)
            obtain ⟨o1, o2⟩ := o
            obtain ⟨rfl, -⟩ := po_c P1
            exact hR _ G1 X1 (f_M_0 M1) (fun u v => cF_M0 M1 u v) (fun z => by have z1 := z.2; omega)
          · skip
            by_cases a4 : q < 0
            · refine mid_L (k := kmod_5) emod_5 hG hx (xs := [cv (pvR 196), cv (oI i), cv (oI w), cv (oI n), cv (oI q)]) (ys := []) ⟨by show 11 ≤ _; omega, ⟨⟨pvR 196, l0, rfl, rfl, ok_this⟩, ⟨oI i, l1, rfl, rfl, ok_oI (by omega) (by decide) (by decide)⟩, ⟨oI w, l2, rfl, rfl, ok_full32 _⟩, ⟨oI n, l3, rfl, rfl, ok_full32 _⟩, ⟨oI q, l4, rfl, rfl, ok_oI (by omega) (by decide) (by decide)⟩, trivial⟩, trivial, fun c hc => absurd hc List.not_mem_nil⟩ (by omega) (fun o G1 X1 M1 P1 => ?_)
              obtain ⟨o1, o2⟩ := o
              obtain ⟨rfl, -⟩ := po_c P1
              exact hR _ G1 X1 (f_M_0 M1) (fun u v => cF_M0 M1 u v) (fun z => by have z1 := z.2; omega)
            · skip
              by_cases a5 : 1 < q
              · refine mid_L (k := kmod_6) emod_6 hG hx (xs := [cv (pvR 196), cv (oI i), cv (oI w), cv (oI n), cv (oI q)]) (ys := []) ⟨by show 11 ≤ _; omega, ⟨⟨pvR 196, l0, rfl, rfl, ok_this⟩, ⟨oI i, l1, rfl, rfl, ok_oI (by omega) (by decide) (by decide)⟩, ⟨oI w, l2, rfl, rfl, ok_full32 _⟩, ⟨oI n, l3, rfl, rfl, ok_full32 _⟩, ⟨oI q, l4, rfl, rfl, ok_oI (by omega) (by decide) (by decide)⟩, trivial⟩, trivial, fun c hc => absurd hc List.not_mem_nil⟩ (by omega) (fun o G1 X1 M1 P1 => ?_)
                obtain ⟨o1, o2⟩ := o
                obtain ⟨rfl, -⟩ := po_c P1
                exact hR _ G1 X1 (f_M_0 M1) (fun u v => cF_M0 M1 u v) (fun z => by have z1 := z.2; omega)
              · skip
                by_cases a6 : cF g 196 17 < 3 * n
                · refine mid_L (k := kmod_7) emod_7 hG hx (xs := [cv (pvR 196), cv (oI i), cv (oI w), cv (oI n), cv (oI q)]) (ys := [cF g 196 17]) ⟨by show 11 ≤ _; omega, ⟨⟨pvR 196, l0, rfl, rfl, ok_this⟩, ⟨oI i, l1, rfl, rfl, ok_oI (by omega) (by decide) (by decide)⟩, ⟨oI w, l2, rfl, rfl, ok_oI (by omega) (by decide) (by decide)⟩, ⟨oI n, l3, rfl, rfl, ok_oI (by omega) (by decide) (by decide)⟩, ⟨oI q, l4, rfl, rfl, ok_oI (by omega) (by decide) (by decide)⟩, trivial⟩, ⟨⟨.inl (g.1 196 17), hc_i el_196 (Nat.le_of_ble_eq_true rfl) rfl, rfl, rfl, ⟨hb.1, hb.2, Or.inl rfl⟩⟩, trivial⟩, fun c hc => by obtain rfl := List.mem_singleton.mp hc; exact ⟨_, ⟨_, rfl, rfl⟩, by show (1 : Int) + ((-3) * cv (oI n) + (1 * cF g 196 17 + 0)) ≤ 0; rw [cv_oI (a := n) (by omega)]; omega⟩⟩ (by omega) (fun o G1 X1 M1 P1 => ?_)
                  obtain ⟨o1, o2⟩ := o
                  obtain ⟨rfl, -⟩ := po_c P1
                  exact hR _ G1 X1 (f_M_0 M1) (fun u v => cF_M0 M1 u v) (fun z => by have z1 := z.2; omega)
                · skip
                  refine mid_L (k := kmod_a) emod_a hG hx (xs := [cv (pvR 196), cv (oI i), cv (oI w), cv (oI n), cv (oI q)]) (ys := [cF g 196 17]) ⟨by show 11 ≤ _; omega, ⟨⟨pvR 196, l0, rfl, rfl, ok_this⟩, ⟨oI i, l1, rfl, rfl, ok_oI (by omega) (by decide) (by decide)⟩, ⟨oI w, l2, rfl, rfl, ok_oI (by omega) (by decide) (by decide)⟩, ⟨oI n, l3, rfl, rfl, ok_oI (by omega) (by decide) (by decide)⟩, ⟨oI q, l4, rfl, rfl, ok_oI (by omega) (by decide) (by decide)⟩, trivial⟩, ⟨⟨.inl (g.1 196 17), hc_i el_196 (Nat.le_of_ble_eq_true rfl) rfl, rfl, rfl, ⟨hb.1, hb.2, Or.inl rfl⟩⟩, trivial⟩, fun c hc => by obtain rfl := List.mem_singleton.mp hc; exact ⟨_, ⟨_, rfl, rfl⟩, by show (0 : Int) + (3 * cv (oI n) + ((-1) * cF g 196 17 + 0)) ≤ 0; rw [cv_oI (a := n) (by omega)]; omega⟩⟩ (by omega) (fun o G1 X1 M1 P1 => ?_)
                  obtain ⟨o1, o2⟩ := o
                  obtain ⟨z, rfl, hz, ys, hF⟩ := po_i P1
                  exact hA _ _ G1 X1 M1 (fa_i el_196 (Nat.le_of_ble_eq_true rfl) rfl hF) ⟨⟨m, hm, e1, c0⟩, by omega⟩
  · show t_X d 228 5 lv [oI (0)] g P
    refine tz_eq qmod_5 (by decide) ⟨by omega, by omega⟩ (fun c2 => ?_) (fun c2 => absurd c2 (by omega))
    show t_X d 228 45 lv [] g P
    refine t_0 qmod_45 rfl rfl ?_
    refine t_5 qmod_46 rfl rfl ?_
    exact hR _ hG hx (f_M_rf _ _) (fun _ _ => rfl) (fun z => c0 z.1)
set_option maxHeartbeats 2000000 in
theorem mch_run {d : Nat} (hd : 2 ≤ d) (hd2 : d ≤ 1000000) {g : pH} (hG : g_I eG g) (hx : xL g) {i n : Int} (hi : -2147483648 ≤ i ∧ i ≤ 2147483647) (hn : -2147483648 ≤ n ∧ n ≤ 2147483647) {P : Option pv × pH → Prop} (hA : ∀ (v : Int32) (g1 : pH), g_I eG g1 → xL g1 → f_M kmch_a.2.2.2.1 g g1 → cF g1 196 17 = 0 → toM g i ∧ (0 ≤ n ∧ n ≤ 25) ∧ n ≤ cF g 196 17 → P (some (.inl v), g1)) (hR : ∀ (g1 : pH), g_I eG g1 → xL g1 → f_M kmch_a.2.2.2.1 g g1 → (∀ u v, cF g1 u v = cF g u v) → ¬ (toM g i ∧ (0 ≤ n ∧ n ≤ 25) ∧ n ≤ cF g 196 17) → P (some (oI (-2)), g1)) {lv : List (Nat × pv)} (l0 : px_lg lv 0 = some (pvR 196)) (l1 : px_lg lv 1 = some (oI i)) (l2 : px_lg lv 2 = some (oI n)) : t_X d 174 0 lv [] g P := by
  have hJ : J_ 0 g g := J_rf hG
  have hb := cb_m17 hG
  refine t_0 qmch_0 rfl (ld_a l0) ?_
  refine t_0 qmch_1 rfl (ld_i l1) ?_
  refine t_3 qmch_2 rfl (ar := ([pvR 196, oI (i)], [])) (pcal_v1 rfl rfl el_196) ⟨by omega, Nat.le_of_ble_eq_true rfl, Nat.le_of_ble_eq_true rfl, rfl⟩ ?_
  refine it_run (by omega) (by omega) rfl rfl (fun m hm e1 c0 => ?_) (fun c0 => ?_)
  · show t_X d 174 5 lv [oI (1)] g P
    refine tz_eq qmch_5 (by decide) ⟨by omega, by omega⟩ (fun c1 => absurd c1 (by omega)) (fun c1 => ?_)
    show t_X d 174 8 lv [] g P
    by_cases a0 : n < 0
    · refine mid_L (k := kmch_1) emch_1 hG hx (xs := [cv (pvR 196), cv (oI i), cv (oI n)]) (ys := []) ⟨by show 2 ≤ _; omega, ⟨⟨pvR 196, l0, rfl, rfl, ok_this⟩, ⟨oI i, l1, rfl, rfl, ok_oI (by omega) (by decide) (by decide)⟩, ⟨oI n, l2, rfl, rfl, ok_oI (by omega) (by decide) (by decide)⟩, trivial⟩, trivial, fun c hc => absurd hc List.not_mem_nil⟩ (by omega) (fun o G1 X1 M1 P1 => ?_)
      obtain ⟨o1, o2⟩ := o
      obtain ⟨rfl, -⟩ := po_c P1
      exact hR _ G1 X1 (f_M_0 M1) (fun u v => cF_M0 M1 u v) (fun z => by have z1 := z.2; omega)
    · skip
      by_cases a1 : 25 < n
      · refine mid_L (k := kmch_2) emch_2 hG hx (xs := [cv (pvR 196), cv (oI i), cv (oI n)]) (ys := []) ⟨by show 2 ≤ _; omega, ⟨⟨pvR 196, l0, rfl, rfl, ok_this⟩, ⟨oI i, l1, rfl, rfl, ok_oI (by omega) (by decide) (by decide)⟩, ⟨oI n, l2, rfl, rfl, ok_oI (by omega) (by decide) (by decide)⟩, trivial⟩, trivial, fun c hc => absurd hc List.not_mem_nil⟩ (by omega) (fun o G1 X1 M1 P1 => ?_)
        obtain ⟨o1, o2⟩ := o
        obtain ⟨rfl, -⟩ := po_c P1
        exact hR _ G1 X1 (f_M_0 M1) (fun u v => cF_M0 M1 u v) (fun z => by have z1 := z.2; omega)
      · skip
        by_cases a2 : cF g 196 17 < n
        · refine mid_L (k := kmch_3) emch_3 hG hx (xs := [cv (pvR 196), cv (oI i), cv (oI n)]) (ys := [cF g 196 17]) ⟨by show 2 ≤ _; omega, ⟨⟨pvR 196, l0, rfl, rfl, ok_this⟩, ⟨oI i, l1, rfl, rfl, ok_oI (by omega) (by decide) (by decide)⟩, ⟨oI n, l2, rfl, rfl, ok_oI (by omega) (by decide) (by decide)⟩, trivial⟩, ⟨⟨.inl (g.1 196 17), hc_i el_196 (Nat.le_of_ble_eq_true rfl) rfl, rfl, rfl, ⟨hb.1, hb.2, Or.inl rfl⟩⟩, trivial⟩, fun c hc => by obtain rfl := List.mem_singleton.mp hc; exact ⟨_, ⟨_, rfl, rfl⟩, by show (1 : Int) + ((-1) * cv (oI n) + (1 * cF g 196 17 + 0)) ≤ 0; rw [cv_oI (a := n) (by omega)]; omega⟩⟩ (by omega) (fun o G1 X1 M1 P1 => ?_)
          obtain ⟨o1, o2⟩ := o
          obtain ⟨rfl, -⟩ := po_c P1
          exact hR _ G1 X1 (f_M_0 M1) (fun u v => cF_M0 M1 u v) (fun z => by have z1 := z.2; omega)
        · skip
          refine mid_L (k := kmch_a) emch_a hG hx (xs := [cv (pvR 196), cv (oI i), cv (oI n)]) (ys := [cF g 196 17]) ⟨by show 2 ≤ _; omega, ⟨⟨pvR 196, l0, rfl, rfl, ok_this⟩, ⟨oI i, l1, rfl, rfl, ok_oI (by omega) (by decide) (by decide)⟩, ⟨oI n, l2, rfl, rfl, ok_oI (by omega) (by decide) (by decide)⟩, trivial⟩, ⟨⟨.inl (g.1 196 17), hc_i el_196 (Nat.le_of_ble_eq_true rfl) rfl, rfl, rfl, ⟨hb.1, hb.2, Or.inl rfl⟩⟩, trivial⟩, fun c hc => by obtain rfl := List.mem_singleton.mp hc; exact ⟨_, ⟨_, rfl, rfl⟩, by show (0 : Int) + (1 * cv (oI n) + ((-1) * cF g 196 17 + 0)) ≤ 0; rw [cv_oI (a := n) (by omega)]; omega⟩⟩ (by omega) (fun o G1 X1 M1 P1 => ?_)
          obtain ⟨o1, o2⟩ := o
          obtain ⟨z, rfl, hz, ys, hF⟩ := po_i P1
          exact hA _ _ G1 X1 M1 (fa_i el_196 (Nat.le_of_ble_eq_true rfl) rfl hF) ⟨⟨m, hm, e1, c0⟩, by omega⟩
  · show t_X d 174 5 lv [oI (0)] g P
    refine tz_eq qmch_5 (by decide) ⟨by omega, by omega⟩ (fun c2 => ?_) (fun c2 => absurd c2 (by omega))
    show t_X d 174 26 lv [] g P
    refine t_0 qmch_26 rfl (pq_b (by decide)) ?_
    refine t_5 qmch_28 rfl rfl ?_
    exact hR _ hG hx (f_M_rf _ _) (fun _ _ => rfl) (fun z => c0 z.1)
