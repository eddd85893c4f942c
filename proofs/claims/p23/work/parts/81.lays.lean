/-! by hand: laysTurns, between its loops -/
theorem in_68 : kk_68 ∈ eKT 166 := List.mem_singleton.mpr rfl
theorem eg_f61 : eG (cn 196 + 61) = (0, 255, []) := by decide +kernel
theorem c0_0 : (Int32.ofInt 0).toNatClampNeg = 0 := by decide +kernel
set_option maxHeartbeats 4000000 in
theorem l0_mid {X : pH → Prop} (hX : x_K X eDX) {d W : Nat} (hK : k_I eG X eKT d) (hd : 12 ≤ d) (hd2 : d ≤ 1000000) {h0 : pH} (hx0 : X h0) (hDX : W &&& eDX = 0) (w231 : W.testBit (cn 231) = true) (w232 : W.testBit (cn 232) = true) (w233 : W.testBit (cn 233) = true) (w234 : W.testBit (cn 234) = true) (w61 : W.testBit (cn 196 + 61) = true) (w62 : W.testBit (cn 196 + 62) = true) {i : Nat} (hi : i < 32) {P : Option pv × pH → Prop} (hP : ∀ g : pH, J_ W h0 g → P (none, g)) {g : pH} {lv : List (Nat × pv)} (hJ : J_ W h0 g) (l0 : px_lg lv 0 = some (.inr (.inr (some 196)))) (l1 : px_lg lv 1 = some (.inl (nI i))) : t_X d 216 30 lv [] g P := by
  refine t_0 ql_30 rfl (ld_a l0) ?_
  refine t_0 ql_31 rfl (ld_a l0) ?_
  refine t_0 ql_32 rfl (ld_i l1) ?_
  refine t_0 ql_33 rfl rfl ?_
  refine t_3 ql_34 rfl (ar := ([pvR 196, .inl (nI i), .inl (Int32.ofInt 0)], [pvR 196])) (pcal_v2 rfl rfl el_196) ⟨by omega, Nat.le_of_ble_eq_true rfl, Nat.le_of_ble_eq_true rfl, rfl⟩ ?_
  have hM : m_M kk_68.2.1 (d - 1) (px_ar 0 [pvR 196, .inl (nI i), .inl (Int32.ofInt 0)]) g [cv (pvR 196), (nI i).toInt, (Int32.ofInt 0).toInt] [] := ⟨by show 3 ≤ d - 1; omega, ⟨⟨pvR 196, rfl, rfl, rfl, ok_this⟩, ⟨.inl (nI i), rfl, rfl, rfl, by rw [nI_toInt (by omega)]; exact ⟨by show (0 : Int) ≤ i; omega, by show (i : Int) ≤ 31; omega, Or.inl rfl⟩⟩, ⟨.inl (Int32.ofInt 0), rfl, rfl, rfl, by decide, by decide, Or.inl rfl⟩, trivial⟩, trivial, fun c hc => by cases hc⟩
  refine k_use (k := kk_68) (m := 0) (hK (d - 1) (by omega) 166 kk_68 in_68) hJ.1 (hX _ _ _ hJ.2 hDX hx0) hM (by omega) ⟨0, rfl, rfl⟩ (by omega) (fun o b1 b2 b3 b4 => ?_)
  obtain ⟨o1, o2⟩ := o
  obtain ⟨p, hp, zs, ⟨hr, -⟩⟩ := b4
  have hp := List.mem_singleton.mp hp
  subst hp
  obtain ⟨v, x, ys, e1, ⟨e2, e3, e4⟩, -, -⟩ := hr
  dsimp only at e1
  subst e1
  obtain ⟨r, rfl⟩ := ct_0 e2
  subst e3
  have hJ1 : J_ W h0 o2 := ⟨b1, f_M_tr (Nat.zero_and W) hJ.2 b3⟩
  show t_X d 216 37 lv [.inl r, pvR 196] o2 P
  refine t_4 ql_37 rfl (pputi el_196 rfl) ?_
  have hJ2 := J_puti (n := r) hJ1 el_196 (y := 61) rfl w61 (by rw [eg_f61]; exact e4)
  generalize (pu o2.1 196 61 r, o2.2) = g2 at hJ2 ⊢
  show t_X d 216 40 lv [] g2 P
  refine t_0 ql_40 rfl (ld_a l0) ?_
  refine t_0 ql_41 rfl rfl ?_
  refine t_4 ql_44 rfl (pputl el_196 rfl) ?_
  have hJ3 := J_putl (n := xe_k 9223372036854775807) hJ2 el_196 (y := 62) rfl w62 (by rw [eg_f62]; exact ok_full64 _)
  generalize (g2.1, pu g2.2.1 196 62 (xe_k 9223372036854775807), g2.2.2) = g3 at hJ3 ⊢
  show t_X d 216 47 lv [] g3 P
  have hs := gI_r (r := 233) hJ3.1 el_196 (Nat.le_of_ble_eq_true rfl) (y := 59) rfl eg_f59
  refine t_0 ql_47 rfl (ld_a l0) ?_
  refine t_0 ql_48 rfl (pget el_196 hs) ?_
  refine t_0 ql_51 rfl rfl ?_
  refine t_0 ql_52 rfl rfl ?_
  refine t_ia ql_53 hJ3 el_233 w233 (by rw [eg_a233]; exact ok_full32 _) (by decide +kernel) (fun g4 hJ4 _ _ _ => ?_)
  show t_X d 216 54 lv [] g4 P
  have hc := gI_r (r := 234) hJ4.1 el_196 (Nat.le_of_ble_eq_true rfl) (y := 60) rfl eg_f60
  refine t_0 ql_54 rfl (ld_a l0) ?_
  refine t_0 ql_55 rfl (pget el_196 hc) ?_
  refine t_0 ql_58 rfl rfl ?_
  refine t_0 ql_59 rfl rfl ?_
  refine t_ia ql_60 hJ4 el_234 w234 (by rw [eg_a234]; exact ok_full32 _) (by decide +kernel) (fun g5 hJ5 _ c2 _ => ?_)
  show t_X d 216 61 lv [] g5 P
  have hr := gI_r (r := 231) hJ5.1 el_196 (Nat.le_of_ble_eq_true rfl) (y := 57) rfl eg_f57
  refine t_0 ql_61 rfl (ld_a l0) ?_
  refine t_0 ql_62 rfl (pget el_196 hr) ?_
  refine t_0 ql_65 rfl rfl ?_
  refine t_0 ql_66 rfl rfl ?_
  refine t_ia ql_67 hJ5 el_231 w231 (by rw [eg_a231]; exact ok_full32 _) (by decide +kernel) (fun g6 hJ6 d1 d2 _ => ?_)
  show t_X d 216 68 lv [] g6 P
  refine t_0 ql_68 rfl rfl ?_
  refine t_2 ql_69 rfl (w := (px_s1 lv 2 (.inl (Int32.ofInt 0)), [])) rfl ?_
  rw [c0_0] at c2 d2
  have z1 : rw_ g6 0 = 0 := by
    show (g6.2.2.2.1 231 0).toInt = 0
    rw [d2]
    decide +kernel
  refine lt_loop (by omega) w231 w232 w233 w234 w62 hP _ 0 g6 _ (Nat.le_refl _) (by omega) hJ6 (fun k hk => by omega) (by rw [z1]; decide) (fun k hk => ?_) (s1_ne (by decide) (fun _ => rfl) l0) s1_eq
  rw [show k = 0 by omega, d1 234 (by decide), c2]
  decide +kernel
