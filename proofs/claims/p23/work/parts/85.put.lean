/-! by hand: asks, laysHand, draws, putIn (printed in part by wip/e2/pu.py) -/
theorem qak_0 : xe_look (xc 169) 0 = some (.aload_n 0, 1, 0, 0, 0) := by decide +kernel
theorem qak_1 : xe_look (xc 169) 1 = some (.iload_n 1, 1, 0, 0, 0) := by decide +kernel
theorem qak_2 : xe_look (xc 169) 2 = some (.iload_n 2, 1, 0, 0, 0) := by decide +kernel
theorem qak_3 : xe_look (xc 169) 3 = some (.invokevirtual 375, 3, 0, 190, 1122) := by decide +kernel
theorem qak_6 : xe_look (xc 169) 6 = some (.aload_n 0, 1, 0, 0, 0) := by decide +kernel
theorem qak_7 : xe_look (xc 169) 7 = some (.iload_n 3, 1, 0, 0, 0) := by decide +kernel
theorem qak_8 : xe_look (xc 169) 8 = some (.iload 4, 2, 0, 0, 0) := by decide +kernel
theorem qak_10 : xe_look (xc 169) 10 = some (.invokevirtual 378, 3, 0, 173, 1123) := by decide +kernel
theorem qak_13 : xe_look (xc 169) 13 = some (.ireturn, 1, 0, 0, 0) := by decide +kernel
theorem qdr_0 : xe_look (xc 185) 0 = some (.aload_n 0, 1, 0, 0, 0) := by decide +kernel
theorem qdr_1 : xe_look (xc 185) 1 = some (.getfield 7, 3, 12, 2, 1133) := by decide +kernel
theorem qdr_4 : xe_look (xc 185) 4 = some (.bipush 41, 2, 0, 0, 0) := by decide +kernel
theorem qdr_6 : xe_look (xc 185) 6 = some (.sipush 25173, 3, 0, 0, 0) := by decide +kernel
theorem qdr_9 : xe_look (xc 185) 9 = some (.aload_n 0, 1, 0, 0, 0) := by decide +kernel
theorem qdr_10 : xe_look (xc 185) 10 = some (.getfield 7, 3, 12, 2, 1133) := by decide +kernel
theorem qdr_13 : xe_look (xc 185) 13 = some (.bipush 41, 2, 0, 0, 0) := by decide +kernel
theorem qdr_15 : xe_look (xc 185) 15 = some (.iaload, 1, 0, 0, 0) := by decide +kernel
theorem qdr_16 : xe_look (xc 185) 16 = some (.imul, 1, 0, 0, 0) := by decide +kernel
theorem qdr_17 : xe_look (xc 185) 17 = some (.sipush 13849, 3, 0, 0, 0) := by decide +kernel
theorem qdr_20 : xe_look (xc 185) 20 = some (.iadd, 1, 0, 0, 0) := by decide +kernel
theorem qdr_21 : xe_look (xc 185) 21 = some (.ldc_w 381, 3, 0, 2147549184, 1169) := by decide +kernel
theorem qdr_24 : xe_look (xc 185) 24 = some (.irem, 1, 0, 0, 0) := by decide +kernel
theorem qdr_25 : xe_look (xc 185) 25 = some (.iastore, 1, 0, 0, 0) := by decide +kernel
theorem qdr_26 : xe_look (xc 185) 26 = some (.aload_n 0, 1, 0, 0, 0) := by decide +kernel
theorem qdr_27 : xe_look (xc 185) 27 = some (.getfield 7, 3, 12, 2, 1133) := by decide +kernel
theorem qdr_30 : xe_look (xc 185) 30 = some (.bipush 41, 2, 0, 0, 0) := by decide +kernel
theorem qdr_32 : xe_look (xc 185) 32 = some (.iaload, 1, 0, 0, 0) := by decide +kernel
theorem qdr_33 : xe_look (xc 185) 33 = some (.bipush 10, 2, 0, 0, 0) := by decide +kernel
theorem qdr_35 : xe_look (xc 185) 35 = some (.irem, 1, 0, 0, 0) := by decide +kernel
theorem qdr_36 : xe_look (xc 185) 36 = some (.ireturn, 1, 0, 0, 0) := by decide +kernel
theorem qin_0 : xe_look (xc 199) 0 = some (.iload_n 0, 1, 0, 0, 0) := by decide +kernel
theorem qin_1 : xe_look (xc 199) 1 = some (.iload_n 1, 1, 0, 0, 0) := by decide +kernel
theorem qin_2 : xe_look (xc 199) 2 = some (.if_icmp .lt 12, 3, 0, 0, 0) := by decide +kernel
theorem qin_5 : xe_look (xc 199) 5 = some (.iload_n 0, 1, 0, 0, 0) := by decide +kernel
theorem qin_6 : xe_look (xc 199) 6 = some (.iload_n 2, 1, 0, 0, 0) := by decide +kernel
theorem qin_7 : xe_look (xc 199) 7 = some (.if_icmp .gt 7, 3, 0, 0, 0) := by decide +kernel
theorem qin_10 : xe_look (xc 199) 10 = some (.iconst 1, 1, 0, 0, 0) := by decide +kernel
theorem qin_11 : xe_look (xc 199) 11 = some (.goto 4, 3, 0, 0, 0) := by decide +kernel
theorem qin_14 : xe_look (xc 199) 14 = some (.iconst 0, 1, 0, 0, 0) := by decide +kernel
theorem qin_15 : xe_look (xc 199) 15 = some (.ireturn, 1, 0, 0, 0) := by decide +kernel
theorem qlh_0 : xe_look (xc 214) 0 = some (.iconst 0, 1, 0, 0, 0) := by decide +kernel
theorem qlh_1 : xe_look (xc 214) 1 = some (.istore_n 2, 1, 0, 0, 0) := by decide +kernel
theorem qlh_2 : xe_look (xc 214) 2 = some (.iconst 0, 1, 0, 0, 0) := by decide +kernel
theorem qlh_3 : xe_look (xc 214) 3 = some (.istore_n 3, 1, 0, 0, 0) := by decide +kernel
theorem qlh_4 : xe_look (xc 214) 4 = some (.iload_n 3, 1, 0, 0, 0) := by decide +kernel
theorem qlh_5 : xe_look (xc 214) 5 = some (.bipush 8, 2, 0, 0, 0) := by decide +kernel
theorem qlh_7 : xe_look (xc 214) 7 = some (.if_icmp .ge 34, 3, 0, 0, 0) := by decide +kernel
theorem qlh_10 : xe_look (xc 214) 10 = some (.aload_n 0, 1, 0, 0, 0) := by decide +kernel
theorem qlh_11 : xe_look (xc 214) 11 = some (.getfield 107, 3, 12, 55, 1187) := by decide +kernel
theorem qlh_14 : xe_look (xc 214) 14 = some (.iload_n 3, 1, 0, 0, 0) := by decide +kernel
theorem qlh_15 : xe_look (xc 214) 15 = some (.aload_n 0, 1, 0, 0, 0) := by decide +kernel
theorem qlh_16 : xe_look (xc 214) 16 = some (.iload_n 1, 1, 0, 0, 0) := by decide +kernel
theorem qlh_17 : xe_look (xc 214) 17 = some (.iload_n 3, 1, 0, 0, 0) := by decide +kernel
theorem qlh_18 : xe_look (xc 214) 18 = some (.bipush 119, 2, 0, 0, 0) := by decide +kernel
theorem qlh_20 : xe_look (xc 214) 20 = some (.bipush 99, 2, 0, 0, 0) := by decide +kernel
theorem qlh_22 : xe_look (xc 214) 22 = some (.invokevirtual 391, 3, 0, 169, 1234) := by decide +kernel
theorem qlh_25 : xe_look (xc 214) 25 = some (.iastore, 1, 0, 0, 0) := by decide +kernel
theorem qlh_26 : xe_look (xc 214) 26 = some (.iload_n 2, 1, 0, 0, 0) := by decide +kernel
theorem qlh_27 : xe_look (xc 214) 27 = some (.aload_n 0, 1, 0, 0, 0) := by decide +kernel
theorem qlh_28 : xe_look (xc 214) 28 = some (.getfield 107, 3, 12, 55, 1187) := by decide +kernel
theorem qlh_31 : xe_look (xc 214) 31 = some (.iload_n 3, 1, 0, 0, 0) := by decide +kernel
theorem qlh_32 : xe_look (xc 214) 32 = some (.iaload, 1, 0, 0, 0) := by decide +kernel
theorem qlh_33 : xe_look (xc 214) 33 = some (.iadd, 1, 0, 0, 0) := by decide +kernel
theorem qlh_34 : xe_look (xc 214) 34 = some (.istore_n 2, 1, 0, 0, 0) := by decide +kernel
theorem qlh_35 : xe_look (xc 214) 35 = some (.iinc 3 1, 3, 0, 0, 0) := by decide +kernel
theorem qlh_38 : xe_look (xc 214) 38 = some (.goto (-34), 3, 0, 0, 0) := by decide +kernel
theorem qlh_41 : xe_look (xc 214) 41 = some (.iload_n 2, 1, 0, 0, 0) := by decide +kernel
theorem qlh_42 : xe_look (xc 214) 42 = some (.ireturn, 1, 0, 0, 0) := by decide +kernel
theorem qpi_0 : xe_look (xc 232) 0 = some (.iconst 0, 1, 0, 0, 0) := by decide +kernel
theorem qpi_1 : xe_look (xc 232) 1 = some (.istore_n 1, 1, 0, 0, 0) := by decide +kernel
theorem qpi_2 : xe_look (xc 232) 2 = some (.iload_n 1, 1, 0, 0, 0) := by decide +kernel
theorem qpi_3 : xe_look (xc 232) 3 = some (.bipush 32, 2, 0, 0, 0) := by decide +kernel
theorem qpi_5 : xe_look (xc 232) 5 = some (.if_icmp .ge 91, 3, 0, 0, 0) := by decide +kernel
theorem qpi_8 : xe_look (xc 232) 8 = some (.aload_n 0, 1, 0, 0, 0) := by decide +kernel
theorem qpi_9 : xe_look (xc 232) 9 = some (.iload_n 1, 1, 0, 0, 0) := by decide +kernel
theorem qpi_10 : xe_look (xc 232) 10 = some (.invokevirtual 205, 3, 0, 205, 1130) := by decide +kernel
theorem qpi_13 : xe_look (xc 232) 13 = some (.ifCond .ne 6, 3, 0, 0, 0) := by decide +kernel
theorem qpi_16 : xe_look (xc 232) 16 = some (.goto 74, 3, 0, 0, 0) := by decide +kernel
theorem qpi_19 : xe_look (xc 232) 19 = some (.aload_n 0, 1, 0, 0, 0) := by decide +kernel
theorem qpi_20 : xe_look (xc 232) 20 = some (.invokevirtual 385, 3, 0, 185, 1253) := by decide +kernel
theorem qpi_23 : xe_look (xc 232) 23 = some (.pop, 1, 0, 0, 0) := by decide +kernel
theorem qpi_24 : xe_look (xc 232) 24 = some (.aload_n 0, 1, 0, 0, 0) := by decide +kernel
theorem qpi_25 : xe_look (xc 232) 25 = some (.iload_n 1, 1, 0, 0, 0) := by decide +kernel
theorem qpi_26 : xe_look (xc 232) 26 = some (.invokevirtual 434, 3, 0, 214, 1186) := by decide +kernel
theorem qpi_29 : xe_look (xc 232) 29 = some (.istore_n 2, 1, 0, 0, 0) := by decide +kernel
theorem qpi_30 : xe_look (xc 232) 30 = some (.iload_n 2, 1, 0, 0, 0) := by decide +kernel
theorem qpi_31 : xe_look (xc 232) 31 = some (.ifCond .ne 6, 3, 0, 0, 0) := by decide +kernel
theorem qpi_34 : xe_look (xc 232) 34 = some (.goto 56, 3, 0, 0, 0) := by decide +kernel
theorem qpi_37 : xe_look (xc 232) 37 = some (.aload_n 0, 1, 0, 0, 0) := by decide +kernel
theorem qpi_38 : xe_look (xc 232) 38 = some (.getfield 7, 3, 12, 2, 1133) := by decide +kernel
theorem qpi_41 : xe_look (xc 232) 41 = some (.bipush 41, 2, 0, 0, 0) := by decide +kernel
theorem qpi_43 : xe_look (xc 232) 43 = some (.iaload, 1, 0, 0, 0) := by decide +kernel
theorem qpi_44 : xe_look (xc 232) 44 = some (.iload_n 2, 1, 0, 0, 0) := by decide +kernel
theorem qpi_45 : xe_look (xc 232) 45 = some (.irem, 1, 0, 0, 0) := by decide +kernel
theorem qpi_46 : xe_look (xc 232) 46 = some (.istore_n 3, 1, 0, 0, 0) := by decide +kernel
theorem qpi_47 : xe_look (xc 232) 47 = some (.iconst 0, 1, 0, 0, 0) := by decide +kernel
theorem qpi_48 : xe_look (xc 232) 48 = some (.istore 4, 2, 0, 0, 0) := by decide +kernel
theorem qpi_50 : xe_look (xc 232) 50 = some (.iload_n 3, 1, 0, 0, 0) := by decide +kernel
theorem qpi_51 : xe_look (xc 232) 51 = some (.aload_n 0, 1, 0, 0, 0) := by decide +kernel
theorem qpi_52 : xe_look (xc 232) 52 = some (.getfield 107, 3, 12, 55, 1187) := by decide +kernel
theorem qpi_55 : xe_look (xc 232) 55 = some (.iload 4, 2, 0, 0, 0) := by decide +kernel
theorem qpi_57 : xe_look (xc 232) 57 = some (.iaload, 1, 0, 0, 0) := by decide +kernel
theorem qpi_58 : xe_look (xc 232) 58 = some (.if_icmp .lt 22, 3, 0, 0, 0) := by decide +kernel
theorem qpi_61 : xe_look (xc 232) 61 = some (.iload_n 3, 1, 0, 0, 0) := by decide +kernel
theorem qpi_62 : xe_look (xc 232) 62 = some (.aload_n 0, 1, 0, 0, 0) := by decide +kernel
theorem qpi_63 : xe_look (xc 232) 63 = some (.getfield 107, 3, 12, 55, 1187) := by decide +kernel
theorem qpi_66 : xe_look (xc 232) 66 = some (.iload 4, 2, 0, 0, 0) := by decide +kernel
theorem qpi_68 : xe_look (xc 232) 68 = some (.iaload, 1, 0, 0, 0) := by decide +kernel
theorem qpi_69 : xe_look (xc 232) 69 = some (.isub, 1, 0, 0, 0) := by decide +kernel
theorem qpi_70 : xe_look (xc 232) 70 = some (.istore_n 3, 1, 0, 0, 0) := by decide +kernel
theorem qpi_71 : xe_look (xc 232) 71 = some (.iload 4, 2, 0, 0, 0) := by decide +kernel
theorem qpi_73 : xe_look (xc 232) 73 = some (.iconst 1, 1, 0, 0, 0) := by decide +kernel
theorem qpi_74 : xe_look (xc 232) 74 = some (.iadd, 1, 0, 0, 0) := by decide +kernel
theorem qpi_75 : xe_look (xc 232) 75 = some (.istore 4, 2, 0, 0, 0) := by decide +kernel
theorem qpi_77 : xe_look (xc 232) 77 = some (.goto (-27), 3, 0, 0, 0) := by decide +kernel
theorem qpi_80 : xe_look (xc 232) 80 = some (.aload_n 0, 1, 0, 0, 0) := by decide +kernel
theorem qpi_81 : xe_look (xc 232) 81 = some (.getfield 7, 3, 12, 2, 1133) := by decide +kernel
theorem qpi_84 : xe_look (xc 232) 84 = some (.iconst 0, 1, 0, 0, 0) := by decide +kernel
theorem qpi_85 : xe_look (xc 232) 85 = some (.iload_n 1, 1, 0, 0, 0) := by decide +kernel
theorem qpi_86 : xe_look (xc 232) 86 = some (.iadd, 1, 0, 0, 0) := by decide +kernel
theorem qpi_87 : xe_look (xc 232) 87 = some (.iload 4, 2, 0, 0, 0) := by decide +kernel
theorem qpi_89 : xe_look (xc 232) 89 = some (.iastore, 1, 0, 0, 0) := by decide +kernel
theorem qpi_90 : xe_look (xc 232) 90 = some (.iinc 1 1, 3, 0, 0, 0) := by decide +kernel
theorem qpi_93 : xe_look (xc 232) 93 = some (.goto (-91), 3, 0, 0, 0) := by decide +kernel
theorem qpi_96 : xe_look (xc 232) 96 = some (.aload_n 0, 1, 0, 0, 0) := by decide +kernel
theorem qpi_97 : xe_look (xc 232) 97 = some (.invokevirtual 424, 3, 0, 275, 1163) := by decide +kernel
theorem qpi_100 : xe_look (xc 232) 100 = some (.ireturn, 1, 0, 0, 0) := by decide +kernel
theorem ga_197 : eG (cn 197) = ((-2147483648), 2147483647, []) := by decide +kernel
theorem ga_229 : eG (cn 229) = (0, 99, []) := by decide +kernel
theorem in_run {d : Nat} {g : pH} {lv : List (Nat × pv)} {a b c : Int} {P : Option pv × pH → Prop} (ha : -2147483648 ≤ a ∧ a ≤ 2147483647) (hb : -2147483648 ≤ b ∧ b ≤ 2147483647) (hc : -2147483648 ≤ c ∧ c ≤ 2147483647) (l0 : px_lg lv 0 = some (oI a)) (l1 : px_lg lv 1 = some (oI b)) (l2 : px_lg lv 2 = some (oI c)) (h1 : b ≤ a ∧ a ≤ c → P (some (oI 1), g)) (h0 : a < b ∨ c < a → P (some (oI 0), g)) : t_X d 199 0 lv [] g P := by
  refine t_0 qin_0 rfl (ld_i l0) ?_
  refine t_0 qin_1 rfl (ld_i l1) ?_
  refine tb_lt qin_2 (by decide) ⟨by omega, by omega⟩ ⟨by omega, by omega⟩ (fun c1 => ?_) (fun c1 => ?_)
  · show t_X d 199 14 lv [] g P
    refine t_0 qin_14 rfl rfl ?_
    refine t_5 qin_15 rfl rfl ?_
    exact h0 (by omega)
  · show t_X d 199 5 lv [] g P
    refine t_0 qin_5 rfl (ld_i l0) ?_
    refine t_0 qin_6 rfl (ld_i l2) ?_
    refine tb_gt qin_7 (by decide) ⟨by omega, by omega⟩ ⟨by omega, by omega⟩ (fun c2 => ?_) (fun c2 => ?_)
    · show t_X d 199 14 lv [] g P
      refine t_0 qin_14 rfl rfl ?_
      refine t_5 qin_15 rfl rfl ?_
      exact h0 (by omega)
    · show t_X d 199 10 lv [] g P
      refine t_0 qin_10 rfl rfl ?_
      refine t_1 qin_11 rfl (pb_goto (pc := 11) (by decide)) ?_
      show t_X d 199 15 lv [oI (1)] g P
      refine t_5 qin_15 rfl rfl ?_
      exact h1 (by omega)
theorem kt_L (d : Nat) : ∀ y, ∀ k ∈ eKT y, k_S eG xL k d := kt_ok (fun d _ => h_182 d) (fun d _ => h_183 d) (fun d _ => h_184 d) (fun d _ => h_185 xL_K d) (fun d hK => h_186 xL_K d hK) (fun d _ => h_187 d) xL_K d
theorem J_rf {W : Nat} {g : pH} (hG : g_I eG g) : J_ W g g := ⟨hG, f_M_rf _ _⟩
theorem J_up {W V : Nat} {h0 g g1 : pH} (hV : V &&& W = V) (a : J_ W h0 g) (b : J_ V g g1) : J_ W h0 g1 := ⟨b.1, f_M_tr hV a.2 b.2⟩
def Wa : Nat := 2 ^ cn 227 + 2 ^ cn 228
theorem Wa_1 : Wa.testBit (cn 227) = true ∧ Wa.testBit (cn 228) = true ∧ Wa &&& eDX = 0 ∧ Wa.testBit (cn 229) = false ∧ Wa.testBit (cn 197) = false := by decide +kernel
theorem nI_o (i : Nat) : nI i = Int32.ofInt (i : Int) := by
  show Int32.ofNat i = _
  exact (Int32.ofInt_eq_ofNat).symm
set_option maxHeartbeats 4000000 in
theorem ak_run {d : Nat} (hd : 4 ≤ d) {g : pH} (hG : g_I eG g) (hx : xL g) {i : Nat} (hi : i < 32) {n a b : Int} (ha : -2147483648 ≤ a ∧ a ≤ 2147483647) (hb : 0 ≤ b ∧ b ≤ 999) {P : Option pv × pH → Prop} (hP : ∀ (g1 : pH) (z : Int), 0 ≤ z → z ≤ b → J_ Wa g g1 → P (some (oI z), g1)) {lv : List (Nat × pv)} (l0 : px_lg lv 0 = some (pvR 196)) (l1 : px_lg lv 1 = some (oI (i : Int))) (l2 : px_lg lv 2 = some (oI n)) (l3 : px_lg lv 3 = some (oI a)) (l4 : px_lg lv 4 = some (oI b)) : t_X d 169 0 lv [] g P := by
  refine t_0 qak_0 rfl (ld_a l0) ?_
  refine t_0 qak_1 rfl (ld_i l1) ?_
  refine t_0 qak_2 rfl (ld_i l2) ?_
  refine t_3 qak_3 rfl (ar := ([pvR 196, oI ((i : Int)), oI (n)], [])) (pcal_v2 rfl rfl el_196) ⟨by omega, Nat.le_of_ble_eq_true rfl, Nat.le_of_ble_eq_true rfl, rfl⟩ ?_
  refine feels_run hi Wa_1.2.1 (J_rf hG) rfl (by rw [nI_o]; rfl) rfl (fun g1 hJ1 => ?_)
  show t_X d 169 6 lv [] g1 P
  refine t_0 qak_6 rfl (ld_a l0) ?_
  refine t_0 qak_7 rfl (ld_i l3) ?_
  refine t_0 qak_8 rfl (ld_i l4) ?_
  refine t_3 qak_10 rfl (ar := ([pvR 196, oI (a), oI (b)], [])) (pcal_v2 rfl rfl el_196) ⟨by omega, Nat.le_of_ble_eq_true rfl, Nat.le_of_ble_eq_true rfl, rfl⟩ ?_
  refine bl_run (by omega) Wa_1.1 Wa_1.2.2.1 hx ha hb (fun g2 z2 y2 x2 hJ2 => ?_) hJ1 rfl rfl rfl
  show t_X d 169 13 lv [oI (z2)] g2 P
  refine t_5 qak_13 rfl rfl ?_
  exact hP _ _ y2 x2 hJ2
def sm (f : Nat → Int) : Nat → Int
  | 0 => 0
  | n + 1 => sm f n + f n
theorem sm_e {f f2 : Nat → Int} : ∀ {n : Nat}, (∀ k, k < n → f k = f2 k) → sm f n = sm f2 n
  | 0, _ => rfl
  | n + 1, h => by
    show sm f n + f n = sm f2 n + f2 n
    rw [sm_e (n := n) (fun k hk => h k (by omega)), h n (by omega)]
theorem sm_b {f : Nat → Int} : ∀ {n : Nat}, (∀ k, k < n → 0 ≤ f k ∧ f k ≤ 99) → 0 ≤ sm f n ∧ sm f n ≤ 99 * n
  | 0, _ => ⟨Int.le_refl 0, Int.le_refl 0⟩
  | n + 1, h => by
    have h1 := sm_b (n := n) (fun k hk => h k (by omega))
    have h2 := h n (by omega)
    show 0 ≤ sm f n + f n ∧ sm f n + f n ≤ 99 * ((n + 1 : Nat) : Int)
    omega
def Wl : Nat := Wa + 2 ^ cn 229
theorem Wl_1 : Wl.testBit (cn 229) = true ∧ Wl &&& eDX = 0 ∧ Wa &&& Wl = Wa ∧ Wl.testBit (cn 197) = false := by decide +kernel
set_option maxHeartbeats 4000000 in
theorem lh_loop {d : Nat} (hd : 5 ≤ d) {h0 : pH} (hx : xL h0) {i : Nat} (hi : i < 32) {P : Option pv × pH → Prop} (hP : ∀ g : pH, J_ Wl h0 g → P (some (oI (sm (fA g 229) 8)), g)) : ∀ (m w : Nat) (g : pH) (lv : List (Nat × pv)), w + m = 8 → J_ Wl h0 g → px_lg lv 0 = some (pvR 196) → px_lg lv 1 = some (oI (i : Int)) → px_lg lv 2 = some (oI (sm (fA g 229) w)) → px_lg lv 3 = some (oI (w : Int)) → t_X d 214 4 lv [] g P := by
  intro m
  induction m with
  | zero =>
    intro w g lv hm hJ l0 l1 l2 l3
    obtain rfl : w = 8 := by omega
    replace l3 : px_lg lv 3 = some (oI 8) := l3
    refine t_0 qlh_4 rfl (ld_i l3) ?_
    refine t_0 qlh_5 rfl (pq_b (by decide)) ?_
    refine tb_ge qlh_7 (by decide) ⟨by omega, by omega⟩ ⟨by omega, by omega⟩ (fun c1 => ?_) (fun c1 => absurd c1 (by omega))
    show t_X d 214 41 lv [] g P
    refine t_0 qlh_41 rfl (ld_i l2) ?_
    refine t_5 qlh_42 rfl rfl ?_
    exact hP _ hJ
  | succ m ih =>
    intro w g lv hm hJ l0 l1 l2 l3
    have w_a229 := Wl_1.1
    refine t_0 qlh_4 rfl (ld_i l3) ?_
    refine t_0 qlh_5 rfl (pq_b (by decide)) ?_
    refine tb_ge qlh_7 (by decide) ⟨by omega, by omega⟩ ⟨by omega, by omega⟩ (fun c1 => absurd c1 (by omega)) (fun c1 => ?_)
    show t_X d 214 10 lv [] g P
    refine t_0 qlh_10 rfl (ld_a l0) ?_
    refine t_0 qlh_11 rfl (ar_55 hJ.1) ?_
    refine t_0 qlh_14 rfl (ld_i l3) ?_
    refine t_0 qlh_15 rfl (ld_a l0) ?_
    refine t_0 qlh_16 rfl (ld_i l1) ?_
    refine t_0 qlh_17 rfl (ld_i l3) ?_
    refine t_0 qlh_18 rfl (pq_b (by decide)) ?_
    refine t_0 qlh_20 rfl (pq_b (by decide)) ?_
    refine t_3 qlh_22 rfl (ar := ([pvR 196, oI ((i : Int)), oI ((w : Int)), oI (119), oI (99)], [oI ((w : Int)), pvR 229])) (pcal_v4 rfl rfl el_196) ⟨by omega, Nat.le_of_ble_eq_true rfl, Nat.le_of_ble_eq_true rfl, rfl⟩ ?_
    refine ak_run (by omega) hJ.1 (xL_K _ _ _ hJ.2 Wl_1.2.1 hx) hi (by decide) (by decide) (fun g2 z2 y2 x2 hA2 => ?_) rfl rfl rfl rfl rfl
    have hJ2 := J_up Wl_1.2.2.1 hJ hA2
    have e2 := fA_M hA2.2 Wa_1.2.2.2.1
    show t_X d 214 25 lv [oI (z2), oI ((w : Int)), pvR 229] g2 P
    refine tw_a qlh_25 hJ2 el_229 rfl w_a229 ga_229 (by decide) ⟨by omega, by omega⟩ ⟨by omega, by omega⟩ (fun g3 hJ3 a3 v3 b3 f3 => ?_)
    replace f3 := fF_1 f3
    show t_X d 214 26 lv [] g3 P
    refine t_0 qlh_26 rfl (ld_i l2) ?_
    refine t_0 qlh_27 rfl (ld_a l0) ?_
    refine t_0 qlh_28 rfl (ar_55 hJ3.1) ?_
    refine t_0 qlh_31 rfl (ld_i l3) ?_
    refine t_0 qlh_32 rfl (pq_ia el_229 rfl ⟨by omega, by omega⟩) ?_
    have r4 := gb_a hJ3.1 el_229 (j := (w : Int).toNat) (by omega) ga_229
    refine t_0 qlh_33 rfl pq_add ?_
    refine t_2 qlh_34 rfl (w := (px_s1 lv 2 (oI ((sm (fA g 229) w) + (fA g3 229 (w : Int).toNat))), [])) rfl ?_
    replace l0 : px_lg (px_s1 lv 2 (oI ((sm (fA g 229) w) + (fA g3 229 (w : Int).toNat)))) 0 = some (pvR 196) := s1_ne (by decide) (fun _ => rfl) l0
    replace l1 : px_lg (px_s1 lv 2 (oI ((sm (fA g 229) w) + (fA g3 229 (w : Int).toNat)))) 1 = some (oI ((i : Int))) := s1_ne (by decide) (fun _ => rfl) l1
    replace l3 : px_lg (px_s1 lv 2 (oI ((sm (fA g 229) w) + (fA g3 229 (w : Int).toNat)))) 3 = some (oI ((w : Int))) := s1_ne (by decide) (fun _ => rfl) l3
    have l2 : px_lg (px_s1 lv 2 (oI ((sm (fA g 229) w) + (fA g3 229 (w : Int).toNat)))) 2 = some (oI ((sm (fA g 229) w) + (fA g3 229 (w : Int).toNat))) := s1_eq
    generalize px_s1 lv 2 (oI ((sm (fA g 229) w) + (fA g3 229 (w : Int).toNat))) = lv5 at l0 l1 l3 l2 ⊢
    show t_X d 214 35 lv5 [] g3 P
    refine t_2 qlh_35 rfl (w := (px_s1 lv5 3 (oI ((w : Int) + 1)), [])) (pq_inc l3 (by decide)) ?_
    replace l0 : px_lg (px_s1 lv5 3 (oI ((w : Int) + 1))) 0 = some (pvR 196) := s1_ne (by decide) (fun _ => rfl) l0
    replace l1 : px_lg (px_s1 lv5 3 (oI ((w : Int) + 1))) 1 = some (oI ((i : Int))) := s1_ne (by decide) (fun _ => rfl) l1
    replace l2 : px_lg (px_s1 lv5 3 (oI ((w : Int) + 1))) 2 = some (oI ((sm (fA g 229) w) + (fA g3 229 (w : Int).toNat))) := s1_ne (by decide) (fun _ => rfl) l2
    have l3 : px_lg (px_s1 lv5 3 (oI ((w : Int) + 1))) 3 = some (oI ((w : Int) + 1)) := s1_eq
    generalize px_s1 lv5 3 (oI ((w : Int) + 1)) = lv6 at l0 l1 l2 l3 ⊢
    show t_X d 214 38 lv6 [] g3 P
    refine t_1 qlh_38 rfl (pb_goto (pc := 38) (by decide)) ?_
    show t_X d 214 4 lv6 [] g3 P
    have es : sm (fA g3 229) (w + 1) = sm (fA g 229) w + z2 := by
      show sm (fA g3 229) w + fA g3 229 w = _
      rw [sm_e (f2 := fA g 229) (fun k hk => by rw [b3 k (by show k ≠ w; omega), e2])]
      have : fA g3 229 w = z2 := v3
      rw [this]
    refine ih (w + 1) _ _ (by omega) hJ3 l0 l1 ?_ l3
    rw [l2, es, v3]
theorem lh_run {d : Nat} (hd : 5 ≤ d) {g : pH} (hG : g_I eG g) (hx : xL g) {i : Nat} (hi : i < 32) {P : Option pv × pH → Prop} (hP : ∀ g1 : pH, J_ Wl g g1 → P (some (oI (sm (fA g1 229) 8)), g1)) {lv : List (Nat × pv)} (l0 : px_lg lv 0 = some (pvR 196)) (l1 : px_lg lv 1 = some (oI (i : Int))) : t_X d 214 0 lv [] g P := by
  refine t_0 qlh_0 rfl rfl ?_
  refine t_2 qlh_1 rfl (w := (px_s1 lv 2 (oI (0)), [])) rfl ?_
  replace l0 : px_lg (px_s1 lv 2 (oI (0))) 0 = some (pvR 196) := s1_ne (by decide) (fun _ => rfl) l0
  replace l1 : px_lg (px_s1 lv 2 (oI (0))) 1 = some (oI ((i : Int))) := s1_ne (by decide) (fun _ => rfl) l1
  have l2 : px_lg (px_s1 lv 2 (oI (0))) 2 = some (oI (0)) := s1_eq
  generalize px_s1 lv 2 (oI (0)) = lv1 at l0 l1 l2 ⊢
  show t_X d 214 2 lv1 [] g P
  refine t_0 qlh_2 rfl rfl ?_
  refine t_2 qlh_3 rfl (w := (px_s1 lv1 3 (oI (0)), [])) rfl ?_
  replace l0 : px_lg (px_s1 lv1 3 (oI (0))) 0 = some (pvR 196) := s1_ne (by decide) (fun _ => rfl) l0
  replace l1 : px_lg (px_s1 lv1 3 (oI (0))) 1 = some (oI ((i : Int))) := s1_ne (by decide) (fun _ => rfl) l1
  replace l2 : px_lg (px_s1 lv1 3 (oI (0))) 2 = some (oI (0)) := s1_ne (by decide) (fun _ => rfl) l2
  have l3 : px_lg (px_s1 lv1 3 (oI (0))) 3 = some (oI (0)) := s1_eq
  generalize px_s1 lv1 3 (oI (0)) = lv2 at l0 l1 l2 l3 ⊢
  show t_X d 214 4 lv2 [] g P
  exact lh_loop hd hx hi hP 8 0 _ _ rfl (J_rf hG) l0 l1 l2 l3
theorem dr_run {d W : Nat} {h0 g : pH} (w_a197 : W.testBit (cn 197) = true) (hJ : J_ W h0 g) {P : Option pv × pH → Prop} (hP : ∀ (g1 : pH) (z : Int32), J_ W h0 g1 → P (some (.inl z), g1)) {lv : List (Nat × pv)} (l0 : px_lg lv 0 = some (pvR 196)) : t_X d 185 0 lv [] g P := by
  refine t_0 qdr_0 rfl (ld_a l0) ?_
  refine t_0 qdr_1 rfl (ar_2 hJ.1) ?_
  refine t_0 qdr_4 rfl (pq_b (by decide)) ?_
  refine t_0 qdr_6 rfl (pq_s (by decide)) ?_
  refine t_0 qdr_9 rfl (ld_a l0) ?_
  refine t_0 qdr_10 rfl (ar_2 hJ.1) ?_
  refine t_0 qdr_13 rfl (pq_b (by decide)) ?_
  refine t_0 qdr_15 rfl (pq_ia el_197 rfl ⟨by omega, by omega⟩) ?_
  show t_X d 185 16 lv [oI (fA g 197 41), oI (25173), oI (41), pvR 197] g P
  have r1 := fA_b g 197 41
  refine t_0 qdr_16 rfl pq_mul ?_
  refine t_0 qdr_17 rfl (pq_s (by decide)) ?_
  refine t_0 qdr_20 rfl pq_add ?_
  refine t_0 qdr_21 rfl (pq_cw (n := 65536) (by decide +kernel)) ?_
  obtain ⟨c2, hc2⟩ := pq_rx (d := d) (x := 0) (y := 0) (lv := lv) (h := g) (r := [oI (41), pvR 197]) (a := (25173 * (fA g 197 41)) + 13849) (b := 65536) ⟨by omega, by omega⟩ (by omega)
  refine t_0 qdr_24 rfl hc2 ?_
  refine tw_ax qdr_25 hJ el_197 rfl w_a197 ga_197 ⟨by omega, by omega⟩ (fun g3 hJ3 a3 f3 => ?_)
  replace f3 := fF_1 f3
  show t_X d 185 26 lv [] g3 P
  refine t_0 qdr_26 rfl (ld_a l0) ?_
  refine t_0 qdr_27 rfl (ar_2 hJ3.1) ?_
  refine t_0 qdr_30 rfl (pq_b (by decide)) ?_
  refine t_0 qdr_32 rfl (pq_ia el_197 rfl ⟨by omega, by omega⟩) ?_
  show t_X d 185 33 lv [oI (fA g3 197 41)] g3 P
  have r4 := fA_b g3 197 41
  refine t_0 qdr_33 rfl (pq_b (by decide)) ?_
  obtain ⟨c5, hc5⟩ := pq_rx (d := d) (x := 0) (y := 0) (lv := lv) (h := g3) (r := []) (a := fA g3 197 41) (b := 10) ⟨by omega, by omega⟩ (by omega)
  refine t_0 qdr_35 rfl hc5 ?_
  refine t_5 qdr_36 rfl rfl ?_
  exact hP _ _ hJ3
def Wp : Nat := Wl + 2 ^ cn 197
theorem Wp_1 : Wp.testBit (cn 197) = true ∧ Wp.testBit (cn 229) = true ∧ Wp &&& eDX = 0 ∧ Wl &&& Wp = Wl := by decide +kernel
theorem in_87 : kk_87 ∈ eKT 275 := List.mem_singleton.mpr rfl
set_option maxHeartbeats 4000000 in
theorem pi_find {d : Nat} {h0 : pH} (w_a197 : Wp.testBit (cn 197) = true) {i : Nat} (hi : i < 32) {P : Option pv × pH → Prop} (hP : ∀ (g : pH) (lv : List (Nat × pv)), J_ Wp h0 g → px_lg lv 0 = some (pvR 196) → px_lg lv 1 = some (oI (((i + 1 : Nat)) : Int)) → t_X d 232 2 lv [] g P) {g : pH} : ∀ (m : Nat) (e : Int) (w : Nat) (lv : List (Nat × pv)), w + m = 8 → e + sm (fA g 229) w < sm (fA g 229) 8 → -2147483648 ≤ e ∧ e ≤ 2147483647 ∧ (w = 0 ∨ 0 ≤ e) → J_ Wp h0 g → px_lg lv 0 = some (pvR 196) → px_lg lv 1 = some (oI (i : Int)) → px_lg lv 3 = some (oI e) → px_lg lv 4 = some (oI (w : Int)) → t_X d 232 50 lv [] g P := by
  intro m
  induction m with
  | zero =>
    intro e w lv hm hs he hJ l0 l1 l3 l4
    obtain rfl : w = 8 := by omega
    omega
  | succ m ih =>
    intro e w lv hm hs he hJ l0 l1 l3 l4
    have hb := gb_a hJ.1 el_229 (j := w) (by omega) ga_229
    refine t_0 qpi_50 rfl (ld_i l3) ?_
    refine t_0 qpi_51 rfl (ld_a l0) ?_
    refine t_0 qpi_52 rfl (ar_55 hJ.1) ?_
    refine t_0 qpi_55 rfl (ld_i l4) ?_
    refine t_0 qpi_57 rfl (pq_ia el_229 rfl ⟨by omega, by omega⟩) ?_
    show t_X d 232 58 lv [oI (fA g 229 w), oI (e)] g P
    have r1 := gb_a hJ.1 el_229 (j := w) (by omega) ga_229
    refine tb_lt qpi_58 (by decide) ⟨by omega, by omega⟩ ⟨by omega, by omega⟩ (fun c2 => ?_) (fun c2 => ?_)
    · show t_X d 232 80 lv [] g P
      refine t_0 qpi_80 rfl (ld_a l0) ?_
      refine t_0 qpi_81 rfl (ar_2 hJ.1) ?_
      refine t_0 qpi_84 rfl rfl ?_
      refine t_0 qpi_85 rfl (ld_i l1) ?_
      refine t_0 qpi_86 rfl pq_add ?_
      refine t_0 qpi_87 rfl (ld_i l4) ?_
      refine tw_a qpi_89 hJ el_197 rfl w_a197 ga_197 (by decide) ⟨by omega, by omega⟩ ⟨by omega, by omega⟩ (fun g3 hJ3 a3 v3 b3 f3 => ?_)
      replace f3 := fF_1 f3
      show t_X d 232 90 lv [] g3 P
      refine t_2 qpi_90 rfl (w := (px_s1 lv 1 (oI ((i : Int) + 1)), [])) (pq_inc l1 (by decide)) ?_
      replace l0 : px_lg (px_s1 lv 1 (oI ((i : Int) + 1))) 0 = some (pvR 196) := s1_ne (by decide) (fun _ => rfl) l0
      replace l3 : px_lg (px_s1 lv 1 (oI ((i : Int) + 1))) 3 = some (oI (e)) := s1_ne (by decide) (fun _ => rfl) l3
      replace l4 : px_lg (px_s1 lv 1 (oI ((i : Int) + 1))) 4 = some (oI ((w : Int))) := s1_ne (by decide) (fun _ => rfl) l4
      have l1 : px_lg (px_s1 lv 1 (oI ((i : Int) + 1))) 1 = some (oI ((i : Int) + 1)) := s1_eq
      generalize px_s1 lv 1 (oI ((i : Int) + 1)) = lv4 at l0 l3 l4 l1 ⊢
      show t_X d 232 93 lv4 [] g3 P
      refine t_1 qpi_93 rfl (pb_goto (pc := 93) (by decide)) ?_
      show t_X d 232 2 lv4 [] g3 P
      exact hP _ _ hJ3 l0 l1
    · show t_X d 232 61 lv [] g P
      refine t_0 qpi_61 rfl (ld_i l3) ?_
      refine t_0 qpi_62 rfl (ld_a l0) ?_
      refine t_0 qpi_63 rfl (ar_55 hJ.1) ?_
      refine t_0 qpi_66 rfl (ld_i l4) ?_
      refine t_0 qpi_68 rfl (pq_ia el_229 rfl ⟨by omega, by omega⟩) ?_
      show t_X d 232 69 lv [oI (fA g 229 w), oI (e)] g P
      have r5 := gb_a hJ.1 el_229 (j := w) (by omega) ga_229
      refine t_0 qpi_69 rfl pq_sub ?_
      refine t_2 qpi_70 rfl (w := (px_s1 lv 3 (oI (e - (fA g 229 w))), [])) rfl ?_
      replace l0 : px_lg (px_s1 lv 3 (oI (e - (fA g 229 w)))) 0 = some (pvR 196) := s1_ne (by decide) (fun _ => rfl) l0
      replace l1 : px_lg (px_s1 lv 3 (oI (e - (fA g 229 w)))) 1 = some (oI ((i : Int))) := s1_ne (by decide) (fun _ => rfl) l1
      replace l4 : px_lg (px_s1 lv 3 (oI (e - (fA g 229 w)))) 4 = some (oI ((w : Int))) := s1_ne (by decide) (fun _ => rfl) l4
      have l3 : px_lg (px_s1 lv 3 (oI (e - (fA g 229 w)))) 3 = some (oI (e - (fA g 229 w))) := s1_eq
      generalize px_s1 lv 3 (oI (e - (fA g 229 w))) = lv6 at l0 l1 l4 l3 ⊢
      show t_X d 232 71 lv6 [] g P
      refine t_0 qpi_71 rfl (ld_i l4) ?_
      refine t_0 qpi_73 rfl rfl ?_
      refine t_0 qpi_74 rfl pq_add ?_
      refine t_2 qpi_75 rfl (w := (px_s1 lv6 4 (oI ((w : Int) + 1)), [])) rfl ?_
      replace l0 : px_lg (px_s1 lv6 4 (oI ((w : Int) + 1))) 0 = some (pvR 196) := s1_ne (by decide) (fun _ => rfl) l0
      replace l1 : px_lg (px_s1 lv6 4 (oI ((w : Int) + 1))) 1 = some (oI ((i : Int))) := s1_ne (by decide) (fun _ => rfl) l1
      replace l3 : px_lg (px_s1 lv6 4 (oI ((w : Int) + 1))) 3 = some (oI (e - (fA g 229 w))) := s1_ne (by decide) (fun _ => rfl) l3
      have l4 : px_lg (px_s1 lv6 4 (oI ((w : Int) + 1))) 4 = some (oI ((w : Int) + 1)) := s1_eq
      generalize px_s1 lv6 4 (oI ((w : Int) + 1)) = lv7 at l0 l1 l3 l4 ⊢
      show t_X d 232 77 lv7 [] g P
      refine t_1 qpi_77 rfl (pb_goto (pc := 77) (by decide)) ?_
      show t_X d 232 50 lv7 [] g P
      exact ih _ (w + 1) _ (by omega) (by have : sm (fA g 229) (w + 1) = sm (fA g 229) w + fA g 229 w := rfl; omega) (by omega) hJ l0 l1 l3 l4
set_option maxHeartbeats 4000000 in
theorem pi_loop {d : Nat} (hd : 12 ≤ d) (hd2 : d ≤ 1000000) {h0 : pH} (hx : xL h0) {P : Option pv × pH → Prop} (hP : ∀ (g : pH) (r : Int32), J_ Wp h0 g → P (some (.inl r), g)) : ∀ (m i : Nat) (g : pH) (lv : List (Nat × pv)), i + m = 32 → J_ Wp h0 g → px_lg lv 0 = some (pvR 196) → px_lg lv 1 = some (oI (i : Int)) → t_X d 232 2 lv [] g P := by
  intro m
  induction m with
  | zero =>
    intro i g lv hm hJ l0 l1
    obtain rfl : i = 32 := by omega
    replace l1 : px_lg lv 1 = some (oI 32) := l1
    refine t_0 qpi_2 rfl (ld_i l1) ?_
    refine t_0 qpi_3 rfl (pq_b (by decide)) ?_
    refine tb_ge qpi_5 (by decide) ⟨by omega, by omega⟩ ⟨by omega, by omega⟩ (fun c1 => ?_) (fun c1 => absurd c1 (by omega))
    show t_X d 232 96 lv [] g P
    refine t_0 qpi_96 rfl (ld_a l0) ?_
    refine t_3 qpi_97 rfl (ar := ([pvR 196], [])) (pcal_v0 rfl rfl el_196) ⟨by omega, Nat.le_of_ble_eq_true rfl, Nat.le_of_ble_eq_true rfl, rfl⟩ ?_
    refine k_use (k := kk_87) (m := 0) (kt_L (d - 1) 275 kk_87 in_87) (vs := [pvR 196]) (xs := [197]) (ys := []) hJ.1 (xL_K _ _ _ hJ.2 Wp_1.2.2.1 hx) ⟨by show 4 ≤ d - 1; omega, ⟨⟨pvR 196, rfl, rfl, rfl, ok_this⟩, trivial⟩, trivial, fun c hc => by cases hc⟩ (by omega) ⟨0, rfl, rfl⟩ (by omega) (fun o b1 b2 b3 b4 => ?_)
    obtain ⟨o1, o2⟩ := o
    obtain ⟨p, hp, zs, ⟨hr, -⟩⟩ := b4
    have hp := List.mem_singleton.mp hp
    subst hp
    obtain ⟨v, x, ys, e1, ⟨e2, e3, e4⟩, -, -⟩ := hr
    dsimp only at e1
    subst e1
    obtain ⟨r, rfl⟩ := ct_0 e2
    show t_X d 232 100 lv [.inl (r)] o2 P
    refine t_5 qpi_100 rfl rfl ?_
    exact hP _ _ (J_up (Nat.zero_and _) hJ ⟨b1, b3⟩)
  | succ m ih =>
    intro i g lv hm hJ l0 l1
    have w_a197 := Wp_1.1
    refine t_0 qpi_2 rfl (ld_i l1) ?_
    refine t_0 qpi_3 rfl (pq_b (by decide)) ?_
    refine tb_ge qpi_5 (by decide) ⟨by omega, by omega⟩ ⟨by omega, by omega⟩ (fun c1 => absurd c1 (by omega)) (fun c1 => ?_)
    show t_X d 232 8 lv [] g P
    refine t_0 qpi_8 rfl (ld_a l0) ?_
    refine t_0 qpi_9 rfl (ld_i l1) ?_
    refine t_3 qpi_10 rfl (ar := ([pvR 196, oI ((i : Int))], [])) (pcal_v1 rfl rfl el_196) ⟨by omega, Nat.le_of_ble_eq_true rfl, Nat.le_of_ble_eq_true rfl, rfl⟩ ?_
    refine chk_run (by omega) (fun t2 t100002 => ?_) ?_
    · show t_X d 232 13 lv [oI (1)] g P
      refine tz_ne qpi_13 (by decide) ⟨by omega, by omega⟩ (fun c3 => ?_) (fun c3 => absurd c3 (by omega))
      show t_X d 232 19 lv [] g P
      refine t_0 qpi_19 rfl (ld_a l0) ?_
      refine t_3 qpi_20 rfl (ar := ([pvR 196], [])) (pcal_v0 rfl rfl el_196) ⟨by omega, Nat.le_of_ble_eq_true rfl, Nat.le_of_ble_eq_true rfl, rfl⟩ ?_
      refine dr_run w_a197 hJ (fun g4 z4 hJ4 => ?_) rfl
      show t_X d 232 23 lv [.inl (z4)] g4 P
      refine t_0 qpi_23 rfl rfl ?_
      refine t_0 qpi_24 rfl (ld_a l0) ?_
      refine t_0 qpi_25 rfl (ld_i l1) ?_
      refine t_3 qpi_26 rfl (ar := ([pvR 196, oI ((i : Int))], [])) (pcal_v1 rfl rfl el_196) ⟨by omega, Nat.le_of_ble_eq_true rfl, Nat.le_of_ble_eq_true rfl, rfl⟩ ?_
      refine lh_run (by omega) hJ4.1 (xL_K _ _ _ hJ4.2 Wp_1.2.2.1 hx) (i := i) (by omega) (fun g5 hA5 => ?_) rfl rfl
      have hJ5 := J_up Wp_1.2.2.2 hJ4 hA5
      have hs5 := sm_b (f := fA g5 229) (n := 8) (fun k hk => gb_a hJ5.1 el_229 hk ga_229)
      show t_X d 232 29 lv [oI (sm (fA g5 229) 8)] g5 P
      refine t_2 qpi_29 rfl (w := (px_s1 lv 2 (oI (sm (fA g5 229) 8)), [])) rfl ?_
      replace l0 : px_lg (px_s1 lv 2 (oI (sm (fA g5 229) 8))) 0 = some (pvR 196) := s1_ne (by decide) (fun _ => rfl) l0
      replace l1 : px_lg (px_s1 lv 2 (oI (sm (fA g5 229) 8))) 1 = some (oI ((i : Int))) := s1_ne (by decide) (fun _ => rfl) l1
      have l2 : px_lg (px_s1 lv 2 (oI (sm (fA g5 229) 8))) 2 = some (oI (sm (fA g5 229) 8)) := s1_eq
      generalize px_s1 lv 2 (oI (sm (fA g5 229) 8)) = lv6 at l0 l1 l2 ⊢
      show t_X d 232 30 lv6 [] g5 P
      refine t_0 qpi_30 rfl (ld_i l2) ?_
      refine tz_ne qpi_31 (by decide) ⟨by omega, by omega⟩ (fun c7 => ?_) (fun c7 => ?_)
      · show t_X d 232 37 lv6 [] g5 P
        refine t_0 qpi_37 rfl (ld_a l0) ?_
        refine t_0 qpi_38 rfl (ar_2 hJ5.1) ?_
        refine t_0 qpi_41 rfl (pq_b (by decide)) ?_
        refine t_0 qpi_43 rfl (pq_ia el_197 rfl ⟨by omega, by omega⟩) ?_
        show t_X d 232 44 lv6 [oI (fA g5 197 41)] g5 P
        have r8 := fA_b g5 197 41
        refine t_0 qpi_44 rfl (ld_i l2) ?_
        obtain ⟨c9, hd9, hc9⟩ := pq_rt (d := d) (x := 0) (y := 0) (lv := lv6) (h := g5) (r := []) (a := fA g5 197 41) (b := sm (fA g5 229) 8) ⟨by omega, by omega⟩ ⟨by omega, by omega⟩
        refine t_0 qpi_45 rfl hc9 ?_
        refine t_2 qpi_46 rfl (w := (px_s1 lv6 3 (oI (c9)), [])) rfl ?_
        replace l0 : px_lg (px_s1 lv6 3 (oI (c9))) 0 = some (pvR 196) := s1_ne (by decide) (fun _ => rfl) l0
        replace l1 : px_lg (px_s1 lv6 3 (oI (c9))) 1 = some (oI ((i : Int))) := s1_ne (by decide) (fun _ => rfl) l1
        replace l2 : px_lg (px_s1 lv6 3 (oI (c9))) 2 = some (oI (sm (fA g5 229) 8)) := s1_ne (by decide) (fun _ => rfl) l2
        have l3 : px_lg (px_s1 lv6 3 (oI (c9))) 3 = some (oI (c9)) := s1_eq
        generalize px_s1 lv6 3 (oI (c9)) = lv10 at l0 l1 l2 l3 ⊢
        show t_X d 232 47 lv10 [] g5 P
        refine t_0 qpi_47 rfl rfl ?_
        refine t_2 qpi_48 rfl (w := (px_s1 lv10 4 (oI (0)), [])) rfl ?_
        replace l0 : px_lg (px_s1 lv10 4 (oI (0))) 0 = some (pvR 196) := s1_ne (by decide) (fun _ => rfl) l0
        replace l1 : px_lg (px_s1 lv10 4 (oI (0))) 1 = some (oI ((i : Int))) := s1_ne (by decide) (fun _ => rfl) l1
        replace l2 : px_lg (px_s1 lv10 4 (oI (0))) 2 = some (oI (sm (fA g5 229) 8)) := s1_ne (by decide) (fun _ => rfl) l2
        replace l3 : px_lg (px_s1 lv10 4 (oI (0))) 3 = some (oI (c9)) := s1_ne (by decide) (fun _ => rfl) l3
        have l4 : px_lg (px_s1 lv10 4 (oI (0))) 4 = some (oI (0)) := s1_eq
        generalize px_s1 lv10 4 (oI (0)) = lv11 at l0 l1 l2 l3 l4 ⊢
        show t_X d 232 50 lv11 [] g5 P
        refine pi_find w_a197 (i := i) (by omega) (fun g2 lv2 hJ2 u0 u1 => ?_) 8 _ 0 _ (by omega) ?_ (by omega) hJ5 l0 l1 l3 l4
        · exact ih (i + 1) _ _ (by omega) hJ2 u0 u1
        · show _ + 0 < sm (fA g5 229) 8
          omega
      · show t_X d 232 34 lv6 [] g5 P
        refine t_1 qpi_34 rfl (pb_goto (pc := 34) (by decide)) ?_
        show t_X d 232 90 lv6 [] g5 P
        refine t_2 qpi_90 rfl (w := (px_s1 lv6 1 (oI ((i : Int) + 1)), [])) (pq_inc l1 (by decide)) ?_
        replace l0 : px_lg (px_s1 lv6 1 (oI ((i : Int) + 1))) 0 = some (pvR 196) := s1_ne (by decide) (fun _ => rfl) l0
        replace l2 : px_lg (px_s1 lv6 1 (oI ((i : Int) + 1))) 2 = some (oI (sm (fA g5 229) 8)) := s1_ne (by decide) (fun _ => rfl) l2
        have l1 : px_lg (px_s1 lv6 1 (oI ((i : Int) + 1))) 1 = some (oI ((i : Int) + 1)) := s1_eq
        generalize px_s1 lv6 1 (oI ((i : Int) + 1)) = lv12 at l0 l2 l1 ⊢
        show t_X d 232 93 lv12 [] g5 P
        refine t_1 qpi_93 rfl (pb_goto (pc := 93) (by decide)) ?_
        show t_X d 232 2 lv12 [] g5 P
        exact ih (i + 1) _ _ (by omega) hJ5 l0 l1
    · show t_X d 232 13 lv [oI (0)] g P
      refine tz_ne qpi_13 (by decide) ⟨by omega, by omega⟩ (fun c13 => absurd c13 (by omega)) (fun c13 => ?_)
      show t_X d 232 16 lv [] g P
      refine t_1 qpi_16 rfl (pb_goto (pc := 16) (by decide)) ?_
      show t_X d 232 90 lv [] g P
      refine t_2 qpi_90 rfl (w := (px_s1 lv 1 (oI ((i : Int) + 1)), [])) (pq_inc l1 (by decide)) ?_
      replace l0 : px_lg (px_s1 lv 1 (oI ((i : Int) + 1))) 0 = some (pvR 196) := s1_ne (by decide) (fun _ => rfl) l0
      have l1 : px_lg (px_s1 lv 1 (oI ((i : Int) + 1))) 1 = some (oI ((i : Int) + 1)) := s1_eq
      generalize px_s1 lv 1 (oI ((i : Int) + 1)) = lv14 at l0 l1 ⊢
      show t_X d 232 93 lv14 [] g P
      refine t_1 qpi_93 rfl (pb_goto (pc := 93) (by decide)) ?_
      show t_X d 232 2 lv14 [] g P
      exact ih (i + 1) _ _ (by omega) hJ l0 l1
theorem pi_run {d : Nat} (hd : 12 ≤ d) (hd2 : d ≤ 1000000) {g : pH} (hG : g_I eG g) (hx : xL g) {P : Option pv × pH → Prop} (hP : ∀ (g1 : pH) (r : Int32), J_ Wp g g1 → P (some (.inl r), g1)) {lv : List (Nat × pv)} (l0 : px_lg lv 0 = some (pvR 196)) : t_X d 232 0 lv [] g P := by
  refine t_0 qpi_0 rfl rfl ?_
  refine t_2 qpi_1 rfl (w := (px_s1 lv 1 (oI (0)), [])) rfl ?_
  replace l0 : px_lg (px_s1 lv 1 (oI (0))) 0 = some (pvR 196) := s1_ne (by decide) (fun _ => rfl) l0
  have l1 : px_lg (px_s1 lv 1 (oI (0))) 1 = some (oI (0)) := s1_eq
  generalize px_s1 lv 1 (oI (0)) = lv1 at l0 l1 ⊢
  show t_X d 232 2 lv1 [] g P
  exact pi_loop hd hd2 hx hP 32 0 _ _ rfl (J_rf hG) l0 l1
