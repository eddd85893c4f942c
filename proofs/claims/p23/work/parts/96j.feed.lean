/-! the tie: feed of the class (printed by wip/e2/t4.py) -/
theorem qab_0 : xe_look (xc 109) 0 = some (.bipush 24, 2, 0, 0, 0) := by decide +kernel
theorem qab_2 : xe_look (xc 109) 2 = some (.istore_n 2, 1, 0, 0, 0) := by decide +kernel
theorem qab_3 : xe_look (xc 109) 3 = some (.iload_n 2, 1, 0, 0, 0) := by decide +kernel
theorem qab_4 : xe_look (xc 109) 4 = some (.ifCond .lt 45, 3, 0, 0, 0) := by decide +kernel
theorem qab_7 : xe_look (xc 109) 7 = some (.aload_n 0, 1, 0, 0, 0) := by decide +kernel
theorem qab_8 : xe_look (xc 109) 8 = some (.getfield 81, 3, 11, 1, 981) := by decide +kernel
theorem qab_11 : xe_look (xc 109) 11 = some (.sipush 260, 3, 0, 0, 0) := by decide +kernel
theorem qab_14 : xe_look (xc 109) 14 = some (.if_icmp .ge 35, 3, 0, 0, 0) := by decide +kernel
theorem qab_17 : xe_look (xc 109) 17 = some (.aload_n 0, 1, 0, 0, 0) := by decide +kernel
theorem qab_18 : xe_look (xc 109) 18 = some (.getfield 9, 3, 11, 0, 982) := by decide +kernel
theorem qab_21 : xe_look (xc 109) 21 = some (.aload_n 0, 1, 0, 0, 0) := by decide +kernel
theorem qab_22 : xe_look (xc 109) 22 = some (.getfield 81, 3, 11, 1, 981) := by decide +kernel
theorem qab_25 : xe_look (xc 109) 25 = some (.iload_n 1, 1, 0, 0, 0) := by decide +kernel
theorem qab_26 : xe_look (xc 109) 26 = some (.iload_n 2, 1, 0, 0, 0) := by decide +kernel
theorem qab_27 : xe_look (xc 109) 27 = some (.iushr, 1, 0, 0, 0) := by decide +kernel
theorem qab_28 : xe_look (xc 109) 28 = some (.sipush 255, 3, 0, 0, 0) := by decide +kernel
theorem qab_31 : xe_look (xc 109) 31 = some (.iand, 1, 0, 0, 0) := by decide +kernel
theorem qab_32 : xe_look (xc 109) 32 = some (.iastore, 1, 0, 0, 0) := by decide +kernel
theorem qab_33 : xe_look (xc 109) 33 = some (.aload_n 0, 1, 0, 0, 0) := by decide +kernel
theorem qab_34 : xe_look (xc 109) 34 = some (.dup, 1, 0, 0, 0) := by decide +kernel
theorem qab_35 : xe_look (xc 109) 35 = some (.getfield 81, 3, 11, 1, 981) := by decide +kernel
theorem qab_38 : xe_look (xc 109) 38 = some (.iconst 1, 1, 0, 0, 0) := by decide +kernel
theorem qab_39 : xe_look (xc 109) 39 = some (.iadd, 1, 0, 0, 0) := by decide +kernel
theorem qab_40 : xe_look (xc 109) 40 = some (.putfield 81, 3, 11, 1, 981) := by decide +kernel
theorem qab_43 : xe_look (xc 109) 43 = some (.iinc 2 (-8), 3, 0, 0, 0) := by decide +kernel
theorem qab_46 : xe_look (xc 109) 46 = some (.goto (-43), 3, 0, 0, 0) := by decide +kernel
theorem qab_49 : xe_look (xc 109) 49 = some (.return_, 1, 0, 0, 0) := by decide +kernel
theorem qfc_0 : xe_look (xc 119) 0 = some (.aload_n 0, 1, 0, 0, 0) := by decide +kernel
theorem qfc_1 : xe_look (xc 119) 1 = some (.getfield 81, 3, 11, 1, 981) := by decide +kernel
theorem qfc_4 : xe_look (xc 119) 4 = some (.bipush 20, 2, 0, 0, 0) := by decide +kernel
theorem qfc_6 : xe_look (xc 119) 6 = some (.iadd, 1, 0, 0, 0) := by decide +kernel
theorem qfc_7 : xe_look (xc 119) 7 = some (.sipush 260, 3, 0, 0, 0) := by decide +kernel
theorem qfc_10 : xe_look (xc 119) 10 = some (.if_icmp .le 5, 3, 0, 0, 0) := by decide +kernel
theorem qfc_13 : xe_look (xc 119) 13 = some (.iconst (-1), 1, 0, 0, 0) := by decide +kernel
theorem qfc_14 : xe_look (xc 119) 14 = some (.ireturn, 1, 0, 0, 0) := by decide +kernel
theorem qfc_15 : xe_look (xc 119) 15 = some (.aload_n 0, 1, 0, 0, 0) := by decide +kernel
theorem qfc_16 : xe_look (xc 119) 16 = some (.iload_n 1, 1, 0, 0, 0) := by decide +kernel
theorem qfc_17 : xe_look (xc 119) 17 = some (.invokevirtual 85, 3, 0, 109, 1018) := by decide +kernel
theorem qfc_20 : xe_look (xc 119) 20 = some (.aload_n 0, 1, 0, 0, 0) := by decide +kernel
theorem qfc_21 : xe_look (xc 119) 21 = some (.iload_n 2, 1, 0, 0, 0) := by decide +kernel
theorem qfc_22 : xe_look (xc 119) 22 = some (.invokevirtual 85, 3, 0, 109, 1018) := by decide +kernel
theorem qfc_25 : xe_look (xc 119) 25 = some (.aload_n 0, 1, 0, 0, 0) := by decide +kernel
theorem qfc_26 : xe_look (xc 119) 26 = some (.iload_n 3, 1, 0, 0, 0) := by decide +kernel
theorem qfc_27 : xe_look (xc 119) 27 = some (.invokevirtual 85, 3, 0, 109, 1018) := by decide +kernel
theorem qfc_30 : xe_look (xc 119) 30 = some (.aload_n 0, 1, 0, 0, 0) := by decide +kernel
theorem qfc_31 : xe_look (xc 119) 31 = some (.iload 4, 2, 0, 0, 0) := by decide +kernel
theorem qfc_33 : xe_look (xc 119) 33 = some (.invokevirtual 85, 3, 0, 109, 1018) := by decide +kernel
theorem qfc_36 : xe_look (xc 119) 36 = some (.aload_n 0, 1, 0, 0, 0) := by decide +kernel
theorem qfc_37 : xe_look (xc 119) 37 = some (.iload 5, 2, 0, 0, 0) := by decide +kernel
theorem qfc_39 : xe_look (xc 119) 39 = some (.invokevirtual 85, 3, 0, 109, 1018) := by decide +kernel
theorem qfc_42 : xe_look (xc 119) 42 = some (.aload_n 0, 1, 0, 0, 0) := by decide +kernel
theorem qfc_43 : xe_look (xc 119) 43 = some (.getfield 81, 3, 11, 1, 981) := by decide +kernel
theorem qfc_46 : xe_look (xc 119) 46 = some (.ireturn, 1, 0, 0, 0) := by decide +kernel
theorem cg_0_0 : (eG (cn 0 + 0)).2.2 = [2] := by decide +kernel
theorem cr_0_0 {d i : Nat} {lv : List (Nat × pv)} {r : List pv} {g : pH} (hG : g_I eG g) : px_push eL d none (.getfield i) 11 0 lv (pvR 0 :: r) g = some (pvR 1 :: r) := pget er_0 (gI_r (r := 1) hG er_0 (Nat.le_of_ble_eq_true rfl) (y := 0) rfl cg_0_0)
def updI (f : Nat → Int) (j : Nat) (x : Int) : Nat → Int := fun k => if k = j then x else f k
theorem fA_pu {f : pH} {K j : Nat} {v : Int32} : fA (f.1, f.2.1, f.2.2.1, pu f.2.2.2.1 K j v, f.2.2.2.2) K = updI (fA f K) j v.toInt := by
  funext k
  show (pu f.2.2.2.1 K j v K k).toInt = if k = j then v.toInt else (f.2.2.2.1 K k).toInt
  unfold pu
  by_cases h : k = j
  · rw [if_pos ⟨rfl, h⟩, if_pos h]
  · rw [if_neg (fun z => h z.2), if_neg h]
theorem an255 (x : Int32) : 0 ≤ (x &&& Int32.ofInt 255).toInt ∧ (x &&& Int32.ofInt 255).toInt ≤ 255 := by
  have e : (x &&& Int32.ofInt 255).toBitVec = x.toBitVec &&& 255#32 := rfl
  have h : (x.toBitVec &&& 255#32).toNat ≤ 255 := by
    rw [BitVec.toNat_and]
    exact Nat.and_le_right
  have h2 : (x &&& Int32.ofInt 255).toInt = ((x.toBitVec &&& 255#32).toNat : Int) := by
    show (x &&& Int32.ofInt 255).toBitVec.toInt = _
    rw [e]
    exact BitVec.toInt_eq_toNat_of_lt (by omega)
  omega
/-- a byte of an int, as the class and as the reference take it -/
def bC (v : Int32) (s : Int) : Int := ((v.toUInt32 >>> ((Int32.ofInt s).toUInt32 &&& Int32.toUInt32 31)).toInt32 &&& Int32.ofInt 255).toInt
def bR (v : Int32) (k : Int) : Int := ((v >>> (Int32.ofInt (8 * k) &&& 31)).toInt8.toInt32).toInt8.toInt32.toInt
theorem sh_c {v : Int32} {u : UInt32} {s : Nat} (hu : (u.toBitVec % 32#32).toNat = s) : ((v.toUInt32 >>> u).toInt32 &&& Int32.ofInt 255).toInt = ((v.toBitVec.toNat / 2 ^ s % 256 : Nat) : Int) := by
  have e : ((v.toUInt32 >>> u).toInt32 &&& Int32.ofInt 255).toBitVec = (v.toBitVec >>> s) &&& 255#32 := by
    show (v.toUInt32 >>> u).toBitVec &&& 255#32 = _
    rw [UInt32.toBitVec_shiftRight]
    congr 1
    show v.toBitVec >>> (u.toBitVec % 32#32) = _
    rw [BitVec.ushiftRight_eq', hu]
  have h2 : (v.toBitVec >>> s &&& 255#32).toNat = v.toBitVec.toNat / 2 ^ s % 256 := by
    rw [BitVec.toNat_and, BitVec.toNat_ushiftRight, Nat.shiftRight_eq_div_pow]
    exact Nat.and_two_pow_sub_one_eq_mod _ 8
  show ((v.toUInt32 >>> u).toInt32 &&& Int32.ofInt 255).toBitVec.toInt = _
  rw [e, BitVec.toInt_eq_toNat_of_lt (by rw [h2]; omega), h2]
theorem sh_r {v w : Int32} {s : Nat} (hw : (w.toBitVec.smod 32#32).toNat = s) : ((v >>> w).toInt8.toInt32).toInt8.toInt32.toInt % 256 = v.toInt / ((2 ^ s : Nat) : Int) % 256 := by
  have hw2 : (w.toBitVec.smod 32).toNat = s := hw
  have e : (v >>> w).toInt = v.toInt / ((2 ^ s : Nat) : Int) := by
    show (v >>> w).toBitVec.toInt = _
    rw [Int32.toBitVec_shiftRight, BitVec.sshiftRight', hw2, BitVec.toInt_sshiftRight, Int.shiftRight_eq_div_pow]
    rfl
  rw [Int8.toInt_toInt32, Int32.toInt_toInt8, Int8.toInt_toInt32, Int32.toInt_toInt8, e]
  generalize v.toInt / ((2 ^ s : Nat) : Int) = z
  rw [Int.bmod_bmod]
  exact Int.bmod_emod ..
theorem b_mod {v : Int32} {s k : Int} (h : (s = 24 ∧ k = 3) ∨ (s = 16 ∧ k = 2) ∨ (s = 8 ∧ k = 1) ∨ (s = 0 ∧ k = 0)) : bC v s = bR v k % 256 := by
  have hv : v.toInt = (v.toBitVec.toNat : Int) ∨ v.toInt = (v.toBitVec.toNat : Int) - 4294967296 := by
    have h1 : v.toInt = v.toBitVec.toInt := rfl
    rw [h1, BitVec.toInt_eq_toNat_cond]
    split
    · left; rfl
    · right; rfl
  unfold bC bR
  rcases h with ⟨rfl, rfl⟩ | ⟨rfl, rfl⟩ | ⟨rfl, rfl⟩ | ⟨rfl, rfl⟩
  · rw [sh_c (s := 24) (by decide), sh_r (s := 24) (by decide)]
    omega
  · rw [sh_c (s := 16) (by decide), sh_r (s := 16) (by decide)]
    omega
  · rw [sh_c (s := 8) (by decide), sh_r (s := 8) (by decide)]
    omega
  · rw [sh_c (s := 0) (by decide), sh_r (s := 0) (by decide)]
    omega
theorem bR_b (v : Int32) (k : Int) : -128 ≤ bR v k ∧ bR v k ≤ 127 := by_b _
def apC (v : Int32) (n : Nat) (f : Nat → Int) : Nat → Int := updI (updI (updI (updI f n (bC v 24)) (n + 1) (bC v 16)) (n + 2) (bC v 8)) (n + 3) (bC v 0)
def apR (v : Int32) (n : Nat) (f : Nat → Int) : Nat → Int := updI (updI (updI (updI f n (bR v 3)) (n + 1) (bR v 2)) (n + 2) (bR v 1)) (n + 3) (bR v 0)
/-- a tape of the class, and one of the reference -/
def tpR (f f' : Nat → Int) : Prop := ∀ k, k < 260 → f k = f' k % 256 ∧ -128 ≤ f' k ∧ f' k ≤ 127
theorem tp_upd {f f' : Nat → Int} {n : Nat} {x y : Int} (h : tpR f f') (hx : x = y % 256 ∧ -128 ≤ y ∧ y ≤ 127) : tpR (updI f n x) (updI f' n y) := fun k hk => by
  unfold updI
  by_cases e : k = n
  · rw [if_pos e, if_pos e]; exact hx
  · rw [if_neg e, if_neg e]; exact h k hk
theorem tp_ap {f f' : Nat → Int} {n : Nat} (v : Int32) (h : tpR f f') : tpR (apC v n f) (apR v n f') :=
  tp_upd (tp_upd (tp_upd (tp_upd h ⟨b_mod (Or.inl ⟨rfl, rfl⟩), bR_b _ _⟩) ⟨b_mod (Or.inr (Or.inl ⟨rfl, rfl⟩)), bR_b _ _⟩) ⟨b_mod (Or.inr (Or.inr (Or.inl ⟨rfl, rfl⟩))), bR_b _ _⟩) ⟨b_mod (Or.inr (Or.inr (Or.inr ⟨rfl, rfl⟩))), bR_b _ _⟩
theorem el_1 : eL[1]? = some (1, 260) := by decide +kernel
theorem gA_1 : eG (cn 1) = (0, 255, []) := by decide +kernel
theorem gA_211 : eG (cn 211) = (-144, 143, []) := by decide +kernel
theorem cr_0_0' : (eG (cn 0 + 0)).2.2 = [2] := by decide +kernel
set_option maxHeartbeats 4000000 in
theorem ab_run {d W : Nat} (w_a1 : W.testBit (cn 1) = true) (w_0_1 : W.testBit (cn 0 + 1) = true) {h0 g : pH} (hJ : J_ W h0 g) {v : Int32} (he : 0 ≤ cF g 0 1 ∧ cF g 0 1 + 4 ≤ 260) {P : Option pv × pH → Prop} (hP : ∀ g1 : pH, J_ W h0 g1 → cF g1 0 1 = cF g 0 1 + 4 → fA g1 1 = apC v (cF g 0 1).toNat (fA g 1) → P (none, g1)) {lv : List (Nat × pv)} (l0 : px_lg lv 0 = some (pvR 0)) (l1 : px_lg lv 1 = some (.inl v)) : t_X d 109 0 lv [] g P := by
  refine t_0 qab_0 rfl (pq_b (by decide)) ?_
  refine t_2 qab_2 rfl (w := (px_s1 lv 2 (oI (24)), [])) rfl ?_
  replace l0 : px_lg (px_s1 lv 2 (oI (24))) 0 = some (pvR 0) := s1_ne (by decide) (fun _ => rfl) l0
  replace l1 : px_lg (px_s1 lv 2 (oI (24))) 1 = some (.inl (v)) := s1_ne (by decide) (fun _ => rfl) l1
  have l2 : px_lg (px_s1 lv 2 (oI (24))) 2 = some (oI (24)) := s1_eq
  generalize px_s1 lv 2 (oI (24)) = lv1 at l0 l1 l2 ⊢
  show t_X d 109 3 lv1 [] g P
  refine t_0 qab_3 rfl (ld_i l2) ?_
  refine tz_lt qab_4 (by decide) ⟨by omega, by omega⟩ (fun c2 => absurd c2 (by omega)) (fun c2 => ?_)
  show t_X d 109 7 lv1 [] g P
  refine t_0 qab_7 rfl (ld_a l0) ?_
  have r3 := cb_0_1 hJ.1
  refine t_0 qab_8 rfl (pq_cf (y := 1) er_0 rfl) ?_
  refine t_0 qab_11 rfl (pq_s (by decide)) ?_
  refine tb_ge qab_14 (by decide) ⟨by omega, by omega⟩ ⟨by omega, by omega⟩ (fun c4 => absurd c4 (by omega)) (fun c4 => ?_)
  show t_X d 109 17 lv1 [] g P
  refine t_0 qab_17 rfl (ld_a l0) ?_
  refine t_0 qab_18 rfl (cr_0_0 hJ.1) ?_
  refine t_0 qab_21 rfl (ld_a l0) ?_
  have r5 := cb_0_1 hJ.1
  refine t_0 qab_22 rfl (pq_cf (y := 1) er_0 rfl) ?_
  refine t_0 qab_25 rfl (ld_i l1) ?_
  refine t_0 qab_26 rfl (ld_i l2) ?_
  refine t_0 qab_27 rfl rfl ?_
  refine t_0 qab_28 rfl (pq_s (by decide)) ?_
  refine t_0 qab_31 rfl rfl ?_
  refine tw_i qab_32 hJ el_1 rfl w_a1 gA_1 ⟨by omega, by omega⟩ (an255 _) (fun g6 hJ6 e6 => ?_)
  have u6 : fA g6 1 = updI (fA g 1) (cF g 0 1).toNat ((((v).toUInt32 >>> ((Int32.ofInt (24)).toUInt32 &&& Int32.toUInt32 31)).toInt32) &&& (Int32.ofInt (255))).toInt := by rw [e6]; exact fA_pu
  have v6 : cF g6 0 1 = cF g 0 1 := by rw [e6]; rfl
  show t_X d 109 33 lv1 [] g6 P
  refine t_0 qab_33 rfl (ld_a l0) ?_
  refine t_0 qab_34 rfl rfl ?_
  have r7 := cb_0_1 hJ6.1
  refine t_0 qab_35 rfl (pq_cf (y := 1) er_0 rfl) ?_
  refine t_0 qab_38 rfl rfl ?_
  refine t_0 qab_39 rfl pq_add ?_
  refine tw_c qab_40 er_0 rfl hJ6 w_0_1 gx_0_1 (by decide) ⟨by omega, by omega⟩ (fun g8 hJ8 e8 => ?_)
  have v8 : cF g8 0 1 = (cF g6 0 1) + 1 := by rw [e8]; exact pc_at (by omega) (by omega)
  have u8 : fA g8 1 = fA g6 1 := by rw [e8]; rfl
  show t_X d 109 43 lv1 [] g8 P
  refine t_2 qab_43 rfl (w := (px_s1 lv1 2 (oI (16)), [])) (pq_inc l2 (by decide)) ?_
  replace l0 : px_lg (px_s1 lv1 2 (oI (16))) 0 = some (pvR 0) := s1_ne (by decide) (fun _ => rfl) l0
  replace l1 : px_lg (px_s1 lv1 2 (oI (16))) 1 = some (.inl (v)) := s1_ne (by decide) (fun _ => rfl) l1
  have l2 : px_lg (px_s1 lv1 2 (oI (16))) 2 = some (oI (16)) := s1_eq
  generalize px_s1 lv1 2 (oI (16)) = lv9 at l0 l1 l2 ⊢
  show t_X d 109 46 lv9 [] g8 P
  refine t_1 qab_46 rfl (pb_goto (pc := 46) (by decide)) ?_
  show t_X d 109 3 lv9 [] g8 P
  refine t_0 qab_3 rfl (ld_i l2) ?_
  refine tz_lt qab_4 (by decide) ⟨by omega, by omega⟩ (fun c10 => absurd c10 (by omega)) (fun c10 => ?_)
  show t_X d 109 7 lv9 [] g8 P
  refine t_0 qab_7 rfl (ld_a l0) ?_
  have r11 := cb_0_1 hJ8.1
  refine t_0 qab_8 rfl (pq_cf (y := 1) er_0 rfl) ?_
  refine t_0 qab_11 rfl (pq_s (by decide)) ?_
  refine tb_ge qab_14 (by decide) ⟨by omega, by omega⟩ ⟨by omega, by omega⟩ (fun c12 => absurd c12 (by omega)) (fun c12 => ?_)
  show t_X d 109 17 lv9 [] g8 P
  refine t_0 qab_17 rfl (ld_a l0) ?_
  refine t_0 qab_18 rfl (cr_0_0 hJ8.1) ?_
  refine t_0 qab_21 rfl (ld_a l0) ?_
  have r13 := cb_0_1 hJ8.1
  refine t_0 qab_22 rfl (pq_cf (y := 1) er_0 rfl) ?_
  refine t_0 qab_25 rfl (ld_i l1) ?_
  refine t_0 qab_26 rfl (ld_i l2) ?_
  refine t_0 qab_27 rfl rfl ?_
  refine t_0 qab_28 rfl (pq_s (by decide)) ?_
  refine t_0 qab_31 rfl rfl ?_
  refine tw_i qab_32 hJ8 el_1 rfl w_a1 gA_1 ⟨by omega, by omega⟩ (an255 _) (fun g14 hJ14 e14 => ?_)
  have u14 : fA g14 1 = updI (fA g8 1) (cF g8 0 1).toNat ((((v).toUInt32 >>> ((Int32.ofInt (16)).toUInt32 &&& Int32.toUInt32 31)).toInt32) &&& (Int32.ofInt (255))).toInt := by rw [e14]; exact fA_pu
  have v14 : cF g14 0 1 = cF g8 0 1 := by rw [e14]; rfl
  show t_X d 109 33 lv9 [] g14 P
  refine t_0 qab_33 rfl (ld_a l0) ?_
  refine t_0 qab_34 rfl rfl ?_
  have r15 := cb_0_1 hJ14.1
  refine t_0 qab_35 rfl (pq_cf (y := 1) er_0 rfl) ?_
  refine t_0 qab_38 rfl rfl ?_
  refine t_0 qab_39 rfl pq_add ?_
  refine tw_c qab_40 er_0 rfl hJ14 w_0_1 gx_0_1 (by decide) ⟨by omega, by omega⟩ (fun g16 hJ16 e16 => ?_)
  have v16 : cF g16 0 1 = (cF g14 0 1) + 1 := by rw [e16]; exact pc_at (by omega) (by omega)
  have u16 : fA g16 1 = fA g14 1 := by rw [e16]; rfl
  show t_X d 109 43 lv9 [] g16 P
  refine t_2 qab_43 rfl (w := (px_s1 lv9 2 (oI (8)), [])) (pq_inc l2 (by decide)) ?_
  replace l0 : px_lg (px_s1 lv9 2 (oI (8))) 0 = some (pvR 0) := s1_ne (by decide) (fun _ => rfl) l0
  replace l1 : px_lg (px_s1 lv9 2 (oI (8))) 1 = some (.inl (v)) := s1_ne (by decide) (fun _ => rfl) l1
  have l2 : px_lg (px_s1 lv9 2 (oI (8))) 2 = some (oI (8)) := s1_eq
  generalize px_s1 lv9 2 (oI (8)) = lv17 at l0 l1 l2 ⊢
  show t_X d 109 46 lv17 [] g16 P
  refine t_1 qab_46 rfl (pb_goto (pc := 46) (by decide)) ?_
  show t_X d 109 3 lv17 [] g16 P
  refine t_0 qab_3 rfl (ld_i l2) ?_
  refine tz_lt qab_4 (by decide) ⟨by omega, by omega⟩ (fun c18 => absurd c18 (by omega)) (fun c18 => ?_)
  show t_X d 109 7 lv17 [] g16 P
  refine t_0 qab_7 rfl (ld_a l0) ?_
  have r19 := cb_0_1 hJ16.1
  refine t_0 qab_8 rfl (pq_cf (y := 1) er_0 rfl) ?_
  refine t_0 qab_11 rfl (pq_s (by decide)) ?_
  refine tb_ge qab_14 (by decide) ⟨by omega, by omega⟩ ⟨by omega, by omega⟩ (fun c20 => absurd c20 (by omega)) (fun c20 => ?_)
  show t_X d 109 17 lv17 [] g16 P
  refine t_0 qab_17 rfl (ld_a l0) ?_
  refine t_0 qab_18 rfl (cr_0_0 hJ16.1) ?_
  refine t_0 qab_21 rfl (ld_a l0) ?_
  have r21 := cb_0_1 hJ16.1
  refine t_0 qab_22 rfl (pq_cf (y := 1) er_0 rfl) ?_
  refine t_0 qab_25 rfl (ld_i l1) ?_
  refine t_0 qab_26 rfl (ld_i l2) ?_
  refine t_0 qab_27 rfl rfl ?_
  refine t_0 qab_28 rfl (pq_s (by decide)) ?_
  refine t_0 qab_31 rfl rfl ?_
  refine tw_i qab_32 hJ16 el_1 rfl w_a1 gA_1 ⟨by omega, by omega⟩ (an255 _) (fun g22 hJ22 e22 => ?_)
  have u22 : fA g22 1 = updI (fA g16 1) (cF g16 0 1).toNat ((((v).toUInt32 >>> ((Int32.ofInt (8)).toUInt32 &&& Int32.toUInt32 31)).toInt32) &&& (Int32.ofInt (255))).toInt := by rw [e22]; exact fA_pu
  have v22 : cF g22 0 1 = cF g16 0 1 := by rw [e22]; rfl
  show t_X d 109 33 lv17 [] g22 P
  refine t_0 qab_33 rfl (ld_a l0) ?_
  refine t_0 qab_34 rfl rfl ?_
  have r23 := cb_0_1 hJ22.1
  refine t_0 qab_35 rfl (pq_cf (y := 1) er_0 rfl) ?_
  refine t_0 qab_38 rfl rfl ?_
  refine t_0 qab_39 rfl pq_add ?_
  refine tw_c qab_40 er_0 rfl hJ22 w_0_1 gx_0_1 (by decide) ⟨by omega, by omega⟩ (fun g24 hJ24 e24 => ?_)
  have v24 : cF g24 0 1 = (cF g22 0 1) + 1 := by rw [e24]; exact pc_at (by omega) (by omega)
  have u24 : fA g24 1 = fA g22 1 := by rw [e24]; rfl
  show t_X d 109 43 lv17 [] g24 P
  refine t_2 qab_43 rfl (w := (px_s1 lv17 2 (oI (0)), [])) (pq_inc l2 (by decide)) ?_
  replace l0 : px_lg (px_s1 lv17 2 (oI (0))) 0 = some (pvR 0) := s1_ne (by decide) (fun _ => rfl) l0
  replace l1 : px_lg (px_s1 lv17 2 (oI (0))) 1 = some (.inl (v)) := s1_ne (by decide) (fun _ => rfl) l1
  have l2 : px_lg (px_s1 lv17 2 (oI (0))) 2 = some (oI (0)) := s1_eq
  generalize px_s1 lv17 2 (oI (0)) = lv25 at l0 l1 l2 ⊢
  show t_X d 109 46 lv25 [] g24 P
  refine t_1 qab_46 rfl (pb_goto (pc := 46) (by decide)) ?_
  show t_X d 109 3 lv25 [] g24 P
  refine t_0 qab_3 rfl (ld_i l2) ?_
  refine tz_lt qab_4 (by decide) ⟨by omega, by omega⟩ (fun c26 => absurd c26 (by omega)) (fun c26 => ?_)
  show t_X d 109 7 lv25 [] g24 P
  refine t_0 qab_7 rfl (ld_a l0) ?_
  have r27 := cb_0_1 hJ24.1
  refine t_0 qab_8 rfl (pq_cf (y := 1) er_0 rfl) ?_
  refine t_0 qab_11 rfl (pq_s (by decide)) ?_
  refine tb_ge qab_14 (by decide) ⟨by omega, by omega⟩ ⟨by omega, by omega⟩ (fun c28 => absurd c28 (by omega)) (fun c28 => ?_)
  show t_X d 109 17 lv25 [] g24 P
  refine t_0 qab_17 rfl (ld_a l0) ?_
  refine t_0 qab_18 rfl (cr_0_0 hJ24.1) ?_
  refine t_0 qab_21 rfl (ld_a l0) ?_
  have r29 := cb_0_1 hJ24.1
  refine t_0 qab_22 rfl (pq_cf (y := 1) er_0 rfl) ?_
  refine t_0 qab_25 rfl (ld_i l1) ?_
  refine t_0 qab_26 rfl (ld_i l2) ?_
  refine t_0 qab_27 rfl rfl ?_
  refine t_0 qab_28 rfl (pq_s (by decide)) ?_
  refine t_0 qab_31 rfl rfl ?_
  refine tw_i qab_32 hJ24 el_1 rfl w_a1 gA_1 ⟨by omega, by omega⟩ (an255 _) (fun g30 hJ30 e30 => ?_)
  have u30 : fA g30 1 = updI (fA g24 1) (cF g24 0 1).toNat ((((v).toUInt32 >>> ((Int32.ofInt (0)).toUInt32 &&& Int32.toUInt32 31)).toInt32) &&& (Int32.ofInt (255))).toInt := by rw [e30]; exact fA_pu
  have v30 : cF g30 0 1 = cF g24 0 1 := by rw [e30]; rfl
  show t_X d 109 33 lv25 [] g30 P
  refine t_0 qab_33 rfl (ld_a l0) ?_
  refine t_0 qab_34 rfl rfl ?_
  have r31 := cb_0_1 hJ30.1
  refine t_0 qab_35 rfl (pq_cf (y := 1) er_0 rfl) ?_
  refine t_0 qab_38 rfl rfl ?_
  refine t_0 qab_39 rfl pq_add ?_
  refine tw_c qab_40 er_0 rfl hJ30 w_0_1 gx_0_1 (by decide) ⟨by omega, by omega⟩ (fun g32 hJ32 e32 => ?_)
  have v32 : cF g32 0 1 = (cF g30 0 1) + 1 := by rw [e32]; exact pc_at (by omega) (by omega)
  have u32 : fA g32 1 = fA g30 1 := by rw [e32]; rfl
  show t_X d 109 43 lv25 [] g32 P
  refine t_2 qab_43 rfl (w := (px_s1 lv25 2 (oI ((-8))), [])) (pq_inc l2 (by decide)) ?_
  replace l0 : px_lg (px_s1 lv25 2 (oI ((-8)))) 0 = some (pvR 0) := s1_ne (by decide) (fun _ => rfl) l0
  replace l1 : px_lg (px_s1 lv25 2 (oI ((-8)))) 1 = some (.inl (v)) := s1_ne (by decide) (fun _ => rfl) l1
  have l2 : px_lg (px_s1 lv25 2 (oI ((-8)))) 2 = some (oI ((-8))) := s1_eq
  generalize px_s1 lv25 2 (oI ((-8))) = lv33 at l0 l1 l2 ⊢
  show t_X d 109 46 lv33 [] g32 P
  refine t_1 qab_46 rfl (pb_goto (pc := 46) (by decide)) ?_
  show t_X d 109 3 lv33 [] g32 P
  refine t_0 qab_3 rfl (ld_i l2) ?_
  refine tz_lt qab_4 (by decide) ⟨by omega, by omega⟩ (fun c34 => ?_) (fun c34 => absurd c34 (by omega))
  show t_X d 109 49 lv33 [] g32 P
  refine t_5 qab_49 rfl rfl ?_
  refine hP _ hJ32 (by omega) ?_
  rw [u32, u30, u24, u22, u16, u14, u8, u6]
  rw [show (cF g8 0 1).toNat = (cF g 0 1).toNat + 1 by omega]
  rw [show (cF g16 0 1).toNat = (cF g 0 1).toNat + 2 by omega]
  rw [show (cF g24 0 1).toNat = (cF g 0 1).toNat + 3 by omega]
  rfl
set_option maxHeartbeats 4000000 in
theorem fc_run {d W : Nat} (hd : 1 ≤ d) (w_a1 : W.testBit (cn 1) = true) (w_0_1 : W.testBit (cn 0 + 1) = true) {h0 g : pH} (hJ : J_ W h0 g) {a1 a2 a3 a4 a5 : Int32} {P : Option pv × pH → Prop} (hP0 : 260 < cF g 0 1 + 20 → P (some (oI (-1)), g)) (hP1 : ∀ g1 : pH, J_ W h0 g1 → cF g 0 1 + 20 ≤ 260 → cF g1 0 1 = cF g 0 1 + 20 → fA g1 1 = apC a5 ((cF g 0 1).toNat + 16) (apC a4 ((cF g 0 1).toNat + 12) (apC a3 ((cF g 0 1).toNat + 8) (apC a2 ((cF g 0 1).toNat + 4) (apC a1 (cF g 0 1).toNat (fA g 1))))) → P (some (oI (cF g 0 1 + 20)), g1)) {lv : List (Nat × pv)} (l0 : px_lg lv 0 = some (pvR 0)) (l1 : px_lg lv 1 = some (.inl a1)) (l2 : px_lg lv 2 = some (.inl a2)) (l3 : px_lg lv 3 = some (.inl a3)) (l4 : px_lg lv 4 = some (.inl a4)) (l5 : px_lg lv 5 = some (.inl a5)) : t_X d 119 0 lv [] g P := by
  refine t_0 qfc_0 rfl (ld_a l0) ?_
  have r1 := cb_0_1 hJ.1
  refine t_0 qfc_1 rfl (pq_cf (y := 1) er_0 rfl) ?_
  refine t_0 qfc_4 rfl (pq_b (by decide)) ?_
  refine t_0 qfc_6 rfl pq_add ?_
  refine t_0 qfc_7 rfl (pq_s (by decide)) ?_
  refine tb_le qfc_10 (by decide) ⟨by omega, by omega⟩ ⟨by omega, by omega⟩ (fun c2 => ?_) (fun c2 => ?_)
  · show t_X d 119 15 lv [] g P
    refine t_0 qfc_15 rfl (ld_a l0) ?_
    refine t_0 qfc_16 rfl (ld_i l1) ?_
    refine t_3 qfc_17 rfl (ar := ([pvR 0, .inl (a1)], [])) (pcal_v1 rfl rfl er_0) ⟨by omega, Nat.le_of_ble_eq_true rfl, Nat.le_of_ble_eq_true rfl, rfl⟩ ?_
    refine ab_run w_a1 w_0_1 hJ (by omega) (fun g3 hJ3 v3 u3 => ?_) rfl rfl
    show t_X d 119 20 lv [] g3 P
    refine t_0 qfc_20 rfl (ld_a l0) ?_
    refine t_0 qfc_21 rfl (ld_i l2) ?_
    refine t_3 qfc_22 rfl (ar := ([pvR 0, .inl (a2)], [])) (pcal_v1 rfl rfl er_0) ⟨by omega, Nat.le_of_ble_eq_true rfl, Nat.le_of_ble_eq_true rfl, rfl⟩ ?_
    refine ab_run w_a1 w_0_1 hJ3 (by omega) (fun g4 hJ4 v4 u4 => ?_) rfl rfl
    show t_X d 119 25 lv [] g4 P
    refine t_0 qfc_25 rfl (ld_a l0) ?_
    refine t_0 qfc_26 rfl (ld_i l3) ?_
    refine t_3 qfc_27 rfl (ar := ([pvR 0, .inl (a3)], [])) (pcal_v1 rfl rfl er_0) ⟨by omega, Nat.le_of_ble_eq_true rfl, Nat.le_of_ble_eq_true rfl, rfl⟩ ?_
    refine ab_run w_a1 w_0_1 hJ4 (by omega) (fun g5 hJ5 v5 u5 => ?_) rfl rfl
    show t_X d 119 30 lv [] g5 P
    refine t_0 qfc_30 rfl (ld_a l0) ?_
    refine t_0 qfc_31 rfl (ld_i l4) ?_
    refine t_3 qfc_33 rfl (ar := ([pvR 0, .inl (a4)], [])) (pcal_v1 rfl rfl er_0) ⟨by omega, Nat.le_of_ble_eq_true rfl, Nat.le_of_ble_eq_true rfl, rfl⟩ ?_
    refine ab_run w_a1 w_0_1 hJ5 (by omega) (fun g6 hJ6 v6 u6 => ?_) rfl rfl
    show t_X d 119 36 lv [] g6 P
    refine t_0 qfc_36 rfl (ld_a l0) ?_
    refine t_0 qfc_37 rfl (ld_i l5) ?_
    refine t_3 qfc_39 rfl (ar := ([pvR 0, .inl (a5)], [])) (pcal_v1 rfl rfl er_0) ⟨by omega, Nat.le_of_ble_eq_true rfl, Nat.le_of_ble_eq_true rfl, rfl⟩ ?_
    refine ab_run w_a1 w_0_1 hJ6 (by omega) (fun g7 hJ7 v7 u7 => ?_) rfl rfl
    show t_X d 119 42 lv [] g7 P
    refine t_0 qfc_42 rfl (ld_a l0) ?_
    have r8 := cb_0_1 hJ7.1
    refine t_0 qfc_43 rfl (pq_cf (y := 1) er_0 rfl) ?_
    refine t_5 qfc_46 rfl rfl ?_
    rw [show cF g7 0 1 = cF g 0 1 + 20 by omega]
    refine hP1 _ hJ7 (by omega) (by omega) ?_
    rw [u7, u6, u5, u4, u3]
    rw [show (cF g3 0 1).toNat = (cF g 0 1).toNat + 4 by omega]
    rw [show (cF g4 0 1).toNat = (cF g 0 1).toNat + 8 by omega]
    rw [show (cF g5 0 1).toNat = (cF g 0 1).toNat + 12 by omega]
    rw [show (cF g6 0 1).toNat = (cF g 0 1).toNat + 16 by omega]
  · show t_X d 119 13 lv [] g P
    refine t_0 qfc_13 rfl rfl ?_
    refine t_5 qfc_14 rfl rfl ?_
    exact hP0 (by omega)
