/-! the tie: gone, keep, undo of the reference (printed by wip/e2/t6.py) -/
theorem qmg_0 : xe_look (xc 194) 0 = some (.aload_n 0, 1, 0, 0, 0) := by decide +kernel
theorem qmg_1 : xe_look (xc 194) 1 = some (.iload_n 1, 1, 0, 0, 0) := by decide +kernel
theorem qmg_2 : xe_look (xc 194) 2 = some (.invokevirtual 205, 3, 0, 205, 1130) := by decide +kernel
theorem qmg_5 : xe_look (xc 194) 5 = some (.ifCond .ne 5, 3, 0, 0, 0) := by decide +kernel
theorem qmg_8 : xe_look (xc 194) 8 = some (.iconst 0, 1, 0, 0, 0) := by decide +kernel
theorem qmg_9 : xe_look (xc 194) 9 = some (.ireturn, 1, 0, 0, 0) := by decide +kernel
theorem qmg_10 : xe_look (xc 194) 10 = some (.aload_n 0, 1, 0, 0, 0) := by decide +kernel
theorem qmg_11 : xe_look (xc 194) 11 = some (.aload_n 0, 1, 0, 0, 0) := by decide +kernel
theorem qmg_12 : xe_look (xc 194) 12 = some (.getfield 183, 3, 12, 0, 1158) := by decide +kernel
theorem qmg_15 : xe_look (xc 194) 15 = some (.iconst 1, 1, 0, 0, 0) := by decide +kernel
theorem qmg_16 : xe_look (xc 194) 16 = some (.iload_n 1, 1, 0, 0, 0) := by decide +kernel
theorem qmg_17 : xe_look (xc 194) 17 = some (.ishl, 1, 0, 0, 0) := by decide +kernel
theorem qmg_18 : xe_look (xc 194) 18 = some (.iconst (-1), 1, 0, 0, 0) := by decide +kernel
theorem qmg_19 : xe_look (xc 194) 19 = some (.ixor, 1, 0, 0, 0) := by decide +kernel
theorem qmg_20 : xe_look (xc 194) 20 = some (.iand, 1, 0, 0, 0) := by decide +kernel
theorem qmg_21 : xe_look (xc 194) 21 = some (.putfield 183, 3, 12, 0, 1158) := by decide +kernel
theorem qmk_0 : xe_look (xc 209) 0 = some (.aload_n 0, 1, 0, 0, 0) := by decide +kernel
theorem qmk_1 : xe_look (xc 209) 1 = some (.iconst 1, 1, 0, 0, 0) := by decide +kernel
theorem qmk_2 : xe_look (xc 209) 2 = some (.putfield 516, 3, 12, 72, 1223) := by decide +kernel
theorem qmk_5 : xe_look (xc 209) 5 = some (.aload_n 0, 1, 0, 0, 0) := by decide +kernel
theorem qmk_6 : xe_look (xc 209) 6 = some (.aload_n 0, 1, 0, 0, 0) := by decide +kernel
theorem qmk_7 : xe_look (xc 209) 7 = some (.getfield 183, 3, 12, 0, 1158) := by decide +kernel
theorem qmk_10 : xe_look (xc 209) 10 = some (.putfield 520, 3, 12, 73, 1224) := by decide +kernel
theorem qmk_220 : xe_look (xc 209) 220 = some (.aload_n 0, 1, 0, 0, 0) := by decide +kernel
theorem qmk_221 : xe_look (xc 209) 221 = some (.getfield 183, 3, 12, 0, 1158) := by decide +kernel
theorem qmk_224 : xe_look (xc 209) 224 = some (.invokestatic 532, 3, 0, 171, 1159) := by decide +kernel
theorem qmk_227 : xe_look (xc 209) 227 = some (.ireturn, 1, 0, 0, 0) := by decide +kernel
theorem qmu_0 : xe_look (xc 270) 0 = some (.aload_n 0, 1, 0, 0, 0) := by decide +kernel
theorem qmu_1 : xe_look (xc 270) 1 = some (.getfield 516, 3, 12, 72, 1223) := by decide +kernel
theorem qmu_4 : xe_look (xc 270) 4 = some (.ifCond .ne 5, 3, 0, 0, 0) := by decide +kernel
theorem qmu_7 : xe_look (xc 270) 7 = some (.iconst 0, 1, 0, 0, 0) := by decide +kernel
theorem qmu_8 : xe_look (xc 270) 8 = some (.ireturn, 1, 0, 0, 0) := by decide +kernel
theorem qmu_9 : xe_look (xc 270) 9 = some (.aload_n 0, 1, 0, 0, 0) := by decide +kernel
theorem qmu_10 : xe_look (xc 270) 10 = some (.aload_n 0, 1, 0, 0, 0) := by decide +kernel
theorem qmu_11 : xe_look (xc 270) 11 = some (.getfield 520, 3, 12, 73, 1224) := by decide +kernel
theorem qmu_14 : xe_look (xc 270) 14 = some (.putfield 183, 3, 12, 0, 1158) := by decide +kernel
def kmgn : eK := (194, (2, [(0, 2, (0, 100000, [197])), (1, 0, (0, 31, []))], [], []), (0, []), 309355247977881570806738166741608329489389709622334606320349711713262370330831026167200254656785451212492685073791752505706648893997251960261080790494818497163753817211652127064901028113889262267124396844042565538797065388718416068669075677630666408084907869363416261731922933914638994842320896, [(some (0, (1, 1, [])), [], [])])
theorem emgn : ex_mid eG eKT eDX 4000 kmgn kc_9 24 = true := by decide +kernel
theorem Wmgn : kk_9.2.2.2.1.testBit (cn 196 + 0) = true ∧ kk_9.2.2.2.1 &&& eDX = 0 ∧ kmgn.2.2.2.1 &&& kk_9.2.2.2.1 = kmgn.2.2.2.1 ∧ kmgn.2.2.2.1.testBit (cn 196 + 0) = false := by decide +kernel
set_option maxHeartbeats 4000000 in
theorem mgo_run {d : Nat} (hd : 4 ≤ d) (hd2 : d ≤ 1000000) {g : pH} (hG : g_I eG g) (hx : xL g) {i : Int} (hi : -2147483648 ≤ i ∧ i ≤ 2147483647) {P : Option pv × pH → Prop} (hA : ∀ m : Nat, m < 32 → i = m → bM g m → ∀ g1 : pH, g_I eG g1 → xL g1 → f_M kk_9.2.2.2.1 g g1 → (∀ j, j < 32 → (g1.1 196 0).toBitVec.getLsbD j = ((g.1 196 0).toBitVec.getLsbD j && !decide (j = m))) → P (some (oI 1), g1)) (hR : ¬ toM g i → P (some (oI 0), g)) {lv : List (Nat × pv)} (l0 : px_lg lv 0 = some (pvR 196)) (l1 : px_lg lv 1 = some (oI i)) : t_X d 194 0 lv [] g P := by
  have hJ : J_ kk_9.2.2.2.1 g g := J_rf hG
  have w_0 := Wmgn.1
  refine t_0 qmg_0 rfl (ld_a l0) ?_
  refine t_0 qmg_1 rfl (ld_i l1) ?_
  refine t_3 qmg_2 rfl (ar := ([pvR 196, oI (i)], [])) (pcal_v1 rfl rfl el_196) ⟨by omega, Nat.le_of_ble_eq_true rfl, Nat.le_of_ble_eq_true rfl, rfl⟩ ?_
  refine it_run (by omega) (by omega) rfl rfl (fun m hm e1 c0 => ?_) (fun c0 => ?_)
  · subst e1
    show t_X d 194 5 lv [oI (1)] g P
    refine tz_ne qmg_5 (by decide) ⟨by omega, by omega⟩ (fun c1 => ?_) (fun c1 => absurd c1 (by omega))
    show t_X d 194 10 lv [] g P
    refine t_0 qmg_10 rfl (ld_a l0) ?_
    refine t_0 qmg_11 rfl (ld_a l0) ?_
    have r2 := fF_b g 0
    refine t_0 qmg_12 rfl (pq_gf (y := 0) rfl) ?_
    refine t_0 qmg_15 rfl rfl ?_
    refine t_0 qmg_16 rfl (ld_i l1) ?_
    refine t_0 qmg_17 rfl rfl ?_
    refine t_0 qmg_18 rfl rfl ?_
    refine t_0 qmg_19 rfl rfl ?_
    refine t_0 qmg_20 rfl rfl ?_
    refine tw_v qmg_21 el_196 rfl hJ w_0 gF_0 (fun g3 hJ3 e3 => ?_)
    show t_X d 194 24 lv [] g3 P
    refine mid_L (k := kmgn) emgn hJ3.1 (xL_K _ _ _ hJ3.2 Wmgn.2.1 hx) (xs := [cv (pvR 196), cv (oI (m : Int))]) (ys := []) ⟨by show 2 ≤ _; omega, ⟨⟨pvR 196, l0, rfl, rfl, ok_this⟩, ⟨oI (m : Int), l1, rfl, rfl, ok_oI (by omega) (by decide) (by decide)⟩, trivial⟩, trivial, fun c hc => absurd hc List.not_mem_nil⟩ (by omega) (fun o G1 X1 M1 P1 => ?_)
    obtain ⟨o1, o2⟩ := o
    obtain ⟨rfl, -⟩ := po_c P1
    refine hA m hm rfl c0 o2 G1 X1 (J_up Wmgn.2.2.1 hJ3 ⟨G1, M1⟩).2 (fun j hj => ?_)
    rw [(M1.1 196 0 Wmgn.2.2.2).1, e3]
    rw [pr_at]
    have z9 := bt_clr (b := Int32.ofInt (fF g 0)) hm hj
    exact z9.trans (by rw [show Int32.ofInt (fF g 0) = g.1 196 0 from Int32.ofInt_toInt _])
  · show t_X d 194 5 lv [oI (0)] g P
    refine tz_ne qmg_5 (by decide) ⟨by omega, by omega⟩ (fun c4 => absurd c4 (by omega)) (fun c4 => ?_)
    show t_X d 194 8 lv [] g P
    refine t_0 qmg_8 rfl rfl ?_
    refine t_5 qmg_9 rfl rfl ?_
    exact hR c0
def kmkp : eK := (209, (2, [(0, 2, (0, 100000, [197]))], [], []), (0, []), 5617105280936138000572835376528041683973253335110036219854293564495235398734541299984828903202842587556728369435903046194520496929080216696454852033206311413999609182816544369053569732117469337126868175132534668965029929327151435549112987805967560293575010779351726123932054894363536969521253847114681679872, [])
def smkp : eCc := (220, (2, [(0, 2, (0, 100000, [197]))], [], []), (-1, []))
theorem emkp : ex_to eG eKT eDX 4000 kmkp kc_58 smkp 13 = true := by decide +kernel
def kmun : eK := (270, (2, [(0, 2, (0, 100000, [197]))], [], []), (0, []), 638551955282973539741075423804095168246518898610680698471161402354096631821941426022252536102532304306350725332147878625714992208507849704188250175085630906547905246244425344298989429437888025042062628537858029036419071770957205625177382101874187291202981839868922357366518512871464268430573568, [(some (0, (1, 1, [])), [], [])])
theorem emun : ex_mid eG eKT eDX 4000 kmun kc_60 17 = true := by decide +kernel
theorem Wmkp : kk_58.2.2.2.1.testBit (cn 196 + 72) = true ∧ kk_58.2.2.2.1.testBit (cn 196 + 73) = true ∧ kk_58.2.2.2.1 &&& eDX = 0 ∧ kmkp.2.2.2.1 &&& kk_58.2.2.2.1 = kmkp.2.2.2.1 ∧ kmkp.2.2.2.1.testBit (cn 196 + 72) = false ∧ kmkp.2.2.2.1.testBit (cn 196 + 73) = false ∧ kk_58.2.2.2.1.testBit (cn 196 + 0) = false := by decide +kernel
theorem Wmun : kk_60.2.2.2.1.testBit (cn 196 + 0) = true ∧ kk_60.2.2.2.1 &&& eDX = 0 ∧ kmun.2.2.2.1 &&& kk_60.2.2.2.1 = kmun.2.2.2.1 ∧ kmun.2.2.2.1.testBit (cn 196 + 0) = false := by decide +kernel
theorem gz_72 : eG (cn 196 + 72) = (0, 1, []) := by decide +kernel
theorem gF_73 : eG (cn 196 + 73) = (-2147483648, 2147483647, []) := by decide +kernel
set_option maxHeartbeats 4000000 in
theorem mk_run {d : Nat} (hd : 8 ≤ d) (hd2 : d ≤ 1000000) {g : pH} (hG : g_I eG g) (hx : xL g) {P : Option pv × pH → Prop} (hP : ∀ g1 : pH, g_I eG g1 → xL g1 → f_M kk_58.2.2.2.1 g g1 → g1.1 196 0 = g.1 196 0 → cF g1 196 72 = 1 → g1.1 196 73 = g.1 196 0 → P (some (oI (ctl (bz (g.1 196 0)) 32)), g1)) {lv : List (Nat × pv)} (l0 : px_lg lv 0 = some (pvR 196)) : t_X d 209 0 lv [] g P := by
  have hJ : J_ kk_58.2.2.2.1 g g := J_rf hG
  have w_72 := Wmkp.1
  have w_73 := Wmkp.2.1
  refine t_0 qmk_0 rfl (ld_a l0) ?_
  refine t_0 qmk_1 rfl rfl ?_
  refine tw_z qmk_2 el_196 rfl hJ w_72 gz_72 (by decide) ⟨by omega, by omega⟩ (by omega) (fun g1 hJ1 e1 => ?_)
  show t_X d 209 5 lv [] g1 P
  refine t_0 qmk_5 rfl (ld_a l0) ?_
  refine t_0 qmk_6 rfl (ld_a l0) ?_
  have r2 := fF_b g1 0
  refine t_0 qmk_7 rfl (pq_gf (y := 0) rfl) ?_
  refine tw_c qmk_10 el_196 rfl hJ1 w_73 gF_73 (by decide) ⟨by omega, by omega⟩ (fun g3 hJ3 e3 => ?_)
  show t_X d 209 13 lv [] g3 P
  refine to_L (k := kmkp) emkp rfl hJ3.1 (xL_K _ _ _ hJ3.2 Wmkp.2.2.1 hx) (xs := [cv (pvR 196)]) (ys := []) ⟨by show 2 ≤ _; omega, ⟨⟨pvR 196, l0, rfl, rfl, ok_this⟩, trivial⟩, trivial, fun c hc => absurd hc List.not_mem_nil⟩ (by omega) (fun lv2 g9 xs2 ys2 G2 X2 M2 P2 => ?_)
  have hJ9 := J_up Wmkp.2.2.2.1 hJ3 ⟨G2, M2⟩
  clear l0
  obtain ⟨-, L2, -, -⟩ := P2
  obtain ⟨l0, -⟩ := lv_r rfl L2
  have k1 : g9.1 196 0 = g.1 196 0 := (hJ9.2.1 196 0 Wmkp.2.2.2.2.2.2).1
  have k2 : cF g9 196 72 = 1 := by rw [cF_M M2 Wmkp.2.2.2.2.1, e3, pc_ne (by decide), e1]; exact pc_at (by decide) (by decide)
  have k3 : g9.1 196 73 = g.1 196 0 := by
    rw [(M2.1 196 73 Wmkp.2.2.2.2.2.1).1, e3]
    rw [pr_at]
    show Int32.ofInt (g1.1 196 0).toInt = _
    rw [Int32.ofInt_toInt, e1]
    exact pr_ne (by decide)
  show t_X d 209 220 lv2 [] g9 P
  refine t_0 qmk_220 rfl (ld_a l0) ?_
  have r4 := fF_b g9 0
  refine t_0 qmk_221 rfl (pq_gf (y := 0) rfl) ?_
  refine t_3 qmk_224 rfl (ar := ([oI (fF g9 0)], [])) (pcal_s ⟨Or.inl rfl, rfl, Nat.le_of_ble_eq_true rfl⟩) ⟨by omega, Nat.le_of_ble_eq_true rfl, Nat.le_of_ble_eq_true rfl, rfl⟩ ?_
  refine bi_run ?_ rfl
  show t_X d 209 227 lv2 [oI (ctl (bz (Int32.ofInt (fF g9 0))) 32)] g9 P
  refine t_5 qmk_227 rfl rfl ?_
  rw [show Int32.ofInt (fF g9 0) = g9.1 196 0 from Int32.ofInt_toInt _, k1]
  exact hP g9 hJ9.1 X2 hJ9.2 k1 k2 k3
set_option maxHeartbeats 4000000 in
theorem mu_run {d : Nat} (hd : 8 ≤ d) (hd2 : d ≤ 1000000) {g : pH} (hG : g_I eG g) (hx : xL g) {P : Option pv × pH → Prop} (hA : cF g 196 72 ≠ 0 → ∀ g1 : pH, g_I eG g1 → xL g1 → f_M kk_60.2.2.2.1 g g1 → g1.1 196 0 = g.1 196 73 → P (some (oI 1), g1)) (hR : cF g 196 72 = 0 → P (some (oI 0), g)) {lv : List (Nat × pv)} (l0 : px_lg lv 0 = some (pvR 196)) : t_X d 270 0 lv [] g P := by
  have hJ : J_ kk_60.2.2.2.1 g g := J_rf hG
  have w_0 := Wmun.1
  refine t_0 qmu_0 rfl (ld_a l0) ?_
  have r1 : 0 ≤ fF g 72 ∧ fF g 72 ≤ 1 := cb_z hJ.1 el_196 (Nat.le_of_ble_eq_true rfl) rfl gz_72
  refine t_0 qmu_1 rfl (pq_cz (y := 72) el_196 rfl) ?_
  show t_X d 270 4 lv [oI (fF g 72)] g P
  refine tz_ne qmu_4 (by decide) ⟨by omega, by omega⟩ (fun c2 => ?_) (fun c2 => ?_)
  · show t_X d 270 9 lv [] g P
    refine t_0 qmu_9 rfl (ld_a l0) ?_
    refine t_0 qmu_10 rfl (ld_a l0) ?_
    have r3 := fF_b g 73
    refine t_0 qmu_11 rfl (pq_gf (y := 73) rfl) ?_
    refine tw_c qmu_14 el_196 rfl hJ w_0 gF_0 (by decide) ⟨by omega, by omega⟩ (fun g4 hJ4 e4 => ?_)
    show t_X d 270 17 lv [] g4 P
    refine mid_L (k := kmun) emun hJ4.1 (xL_K _ _ _ hJ4.2 Wmun.2.1 hx) (xs := [cv (pvR 196)]) (ys := []) ⟨by show 2 ≤ _; omega, ⟨⟨pvR 196, l0, rfl, rfl, ok_this⟩, trivial⟩, trivial, fun c hc => absurd hc List.not_mem_nil⟩ (by omega) (fun o G1 X1 M1 P1 => ?_)
    obtain ⟨o1, o2⟩ := o
    obtain ⟨rfl, -⟩ := po_c P1
    refine hA (fun z => by have z2 : fF g 72 = 0 := z; omega) o2 G1 X1 (J_up Wmun.2.2.1 hJ4 ⟨G1, M1⟩).2 ?_
    rw [(M1.1 196 0 Wmun.2.2.2).1, e4]
    rw [pr_at]
    exact Int32.ofInt_toInt _
  · show t_X d 270 7 lv [] g P
    refine t_0 qmu_7 rfl rfl ?_
    refine t_5 qmu_8 rfl rfl ?_
    exact hR (by show fF g 72 = 0; omega)
