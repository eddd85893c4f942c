/-! by hand: rules of the law's walk (printed by wip/e2/pxgen.py) -/
theorem in_k0 : kk_0 ∈ eKT 119 := List.mem_singleton.mpr rfl
theorem in_k1 : kk_1 ∈ eKT 189 := List.mem_singleton.mpr rfl
theorem in_k2 : kk_2 ∈ eKT 147 := List.mem_singleton.mpr rfl
theorem in_k3 : kk_3 ∈ eKT 251 := List.mem_singleton.mpr rfl
theorem in_k4 : kk_4 ∈ eKT 139 := List.mem_singleton.mpr rfl
theorem in_k5 : kk_5 ∈ eKT 231 := List.mem_singleton.mpr rfl
theorem in_k6 : kk_6 ∈ eKT 116 := List.mem_singleton.mpr rfl
theorem in_k7 : kk_7 ∈ eKT 183 := List.mem_singleton.mpr rfl
theorem in_k8 : kk_8 ∈ eKT 120 := List.mem_singleton.mpr rfl
theorem in_k9 : kk_9 ∈ eKT 194 := List.mem_singleton.mpr rfl
theorem in_k12 : kk_12 ∈ eKT 128 := List.mem_singleton.mpr rfl
theorem in_k13 : kk_13 ∈ eKT 211 := List.mem_singleton.mpr rfl
theorem in_k14 : kk_14 ∈ eKT 164 := List.mem_singleton.mpr rfl
theorem in_k15 : kk_15 ∈ eKT 273 := List.mem_singleton.mpr rfl
theorem in_k16 : kk_16 ∈ eKT 146 := List.mem_singleton.mpr rfl
theorem in_k17 : kk_17 ∈ eKT 247 := List.mem_singleton.mpr rfl
theorem in_k18 : kk_18 ∈ eKT 148 := List.mem_singleton.mpr rfl
theorem in_k19 : kk_19 ∈ eKT 252 := List.mem_singleton.mpr rfl
theorem in_k20 : kk_20 ∈ eKT 157 := List.mem_singleton.mpr rfl
theorem in_k21 : kk_21 ∈ eKT 122 := List.mem_singleton.mpr rfl
theorem in_k22 : kk_22 ∈ eKT 200 := List.mem_singleton.mpr rfl
theorem in_k23 : kk_23 ∈ eKT 129 := List.mem_singleton.mpr rfl
theorem in_k24 : kk_24 ∈ eKT 118 := List.mem_singleton.mpr rfl
theorem in_k25 : kk_25 ∈ eKT 187 := List.mem_singleton.mpr rfl
theorem in_k26 : kk_26 ∈ eKT 158 := List.mem_singleton.mpr rfl
theorem in_k27 : kk_27 ∈ eKT 265 := List.mem_singleton.mpr rfl
theorem in_k28 : kk_28 ∈ eKT 137 := List.mem_singleton.mpr rfl
theorem in_k29 : kk_29 ∈ eKT 228 := List.mem_singleton.mpr rfl
theorem in_k30 : kk_30 ∈ eKT 156 := List.mem_singleton.mpr rfl
theorem in_k31 : kk_31 ∈ eKT 263 := List.mem_singleton.mpr rfl
theorem in_k32 : kk_32 ∈ eKT 130 := List.mem_singleton.mpr rfl
theorem in_k33 : kk_33 ∈ eKT 217 := List.mem_singleton.mpr rfl
theorem in_k34 : kk_34 ∈ eKT 132 := List.mem_singleton.mpr rfl
theorem in_k35 : kk_35 ∈ eKT 219 := List.mem_singleton.mpr rfl
theorem in_k36 : kk_36 ∈ eKT 150 := List.mem_singleton.mpr rfl
theorem in_k37 : kk_37 ∈ eKT 258 := List.mem_singleton.mpr rfl
theorem in_k38 : kk_38 ∈ eKT 117 := List.mem_singleton.mpr rfl
theorem in_k39 : kk_39 ∈ eKT 184 := List.mem_singleton.mpr rfl
theorem in_k40 : kk_40 ∈ eKT 111 := List.mem_singleton.mpr rfl
theorem in_k41 : kk_41 ∈ eKT 177 := List.mem_singleton.mpr rfl
theorem in_k42 : kk_42 ∈ eKT 149 := List.mem_singleton.mpr rfl
theorem in_k43 : kk_43 ∈ eKT 142 := List.mem_singleton.mpr rfl
theorem in_k44 : kk_44 ∈ eKT 145 := List.mem_singleton.mpr rfl
theorem in_k45 : kk_45 ∈ eKT 246 := List.mem_singleton.mpr rfl
theorem in_k46 : kk_46 ∈ eKT 133 := List.mem_singleton.mpr rfl
theorem in_k47 : kk_47 ∈ eKT 220 := List.mem_singleton.mpr rfl
theorem in_k48 : kk_48 ∈ eKT 131 := List.mem_singleton.mpr rfl
theorem in_k49 : kk_49 ∈ eKT 218 := List.mem_singleton.mpr rfl
theorem in_k50 : kk_50 ∈ eKT 127 := List.mem_singleton.mpr rfl
theorem in_k51 : kk_51 ∈ eKT 210 := List.mem_singleton.mpr rfl
theorem in_k52 : kk_52 ∈ eKT 121 := List.mem_singleton.mpr rfl
theorem in_k53 : kk_53 ∈ eKT 195 := List.mem_singleton.mpr rfl
theorem in_k54 : kk_54 ∈ eKT 140 := List.mem_singleton.mpr rfl
theorem in_k55 : kk_55 ∈ eKT 144 := List.mem_singleton.mpr rfl
theorem in_k56 : kk_56 ∈ eKT 245 := List.mem_singleton.mpr rfl
theorem in_k57 : kk_57 ∈ eKT 126 := List.mem_singleton.mpr rfl
theorem in_k58 : kk_58 ∈ eKT 209 := List.mem_singleton.mpr rfl
theorem in_k59 : kk_59 ∈ eKT 160 := List.mem_singleton.mpr rfl
theorem in_k60 : kk_60 ∈ eKT 270 := List.mem_singleton.mpr rfl
theorem in_k61 : kk_61 ∈ eKT 110 := List.mem_singleton.mpr rfl
theorem in_k62 : kk_62 ∈ eKT 174 := List.mem_singleton.mpr rfl
theorem in_k63 : kk_63 ∈ eKT 115 := List.mem_singleton.mpr rfl
theorem in_k64 : kk_64 ∈ eKT 182 := List.mem_singleton.mpr rfl
theorem pu_add {sc : pS} {d x y : Nat} {lv : List (Nat × pv)} {h : pH} {r : List pv} {a b : Int} : px_push eL d sc .iadd x y lv (oI b :: oI a :: r) h = some (oI (a + b) :: r) := by
  show some ((.inl (Int32.ofInt a + Int32.ofInt b) : pv) :: r) = some ((.inl (Int32.ofInt (a + b)) : pv) :: r)
  rw [Int32.ofInt_add]
theorem pu_sub {sc : pS} {d x y : Nat} {lv : List (Nat × pv)} {h : pH} {r : List pv} {a b : Int} : px_push eL d sc .isub x y lv (oI b :: oI a :: r) h = some (oI (a - b) :: r) := by
  show some ((.inl (Int32.ofInt a - Int32.ofInt b) : pv) :: r) = some ((.inl (Int32.ofInt (a - b)) : pv) :: r)
  rw [Int32.ofInt_sub]
theorem pu_b {sc : pS} {d x y : Nat} {lv : List (Nat × pv)} {h : pH} {r : List pv} {n : Int} (e : (Int8.ofInt n).toInt32 = Int32.ofInt n) : px_push eL d sc (.bipush n) x y lv r h = some (oI n :: r) := by
  show some ((.inl (Int8.ofInt n).toInt32 : pv) :: r) = _
  rw [e]
theorem ub_gt {sc : pS} {d μ pc : Nat} {lv : List (Nat × pv)} {g : pH} {r : List pv} {a b o : Int} {P : Option pv × pH → Prop} (hq : xe_look (xc μ) pc = some (.if_icmp .gt o, 3, 0, 0, 0)) (ho : 0 ≤ (pc : Int) + o) (ha : -2147483648 ≤ a ∧ a ≤ 2147483647) (hb : -2147483648 ≤ b ∧ b ≤ 2147483647) (ht : b < a → u_X sc d μ (px_tg pc o) lv r g P) (hf : a ≤ b → u_X sc d μ (pc + 3) lv r g P) : u_X sc d μ pc lv (oI b :: oI a :: r) g P := by
  by_cases k : b < a
  · exact u_1 hq rfl (pc_gt_t ho ((lt_oI hb ha).mpr k)) (ht k)
  · exact u_1 hq rfl (pc_gt_f ho (fun z => k ((lt_oI hb ha).mp z))) (hf (by omega))
theorem ub_eq {sc : pS} {d μ pc : Nat} {lv : List (Nat × pv)} {g : pH} {r : List pv} {a b : Int32} {o : Int} {P : Option pv × pH → Prop} (hq : xe_look (xc μ) pc = some (.if_icmp .eq o, 3, 0, 0, 0)) (ho : 0 ≤ (pc : Int) + o) (h : a = b) (ht : u_X sc d μ (px_tg pc o) lv r g P) : u_X sc d μ pc lv (.inl b :: .inl a :: r) g P := u_1 hq rfl (pc_eq_t ho h) ht
theorem el_0 : eL[0]? = some (0, 11) := by decide +kernel
theorem qii_0 : xe_look (xc 124) 0 = some (.iload_n 0, 1, 0, 0, 0) := by decide +kernel
theorem qii_1 : xe_look (xc 124) 1 = some (.iload_n 1, 1, 0, 0, 0) := by decide +kernel
theorem qii_2 : xe_look (xc 124) 2 = some (.if_icmp .lt 12, 3, 0, 0, 0) := by decide +kernel
theorem qii_5 : xe_look (xc 124) 5 = some (.iload_n 0, 1, 0, 0, 0) := by decide +kernel
theorem qii_6 : xe_look (xc 124) 6 = some (.iload_n 2, 1, 0, 0, 0) := by decide +kernel
theorem qii_7 : xe_look (xc 124) 7 = some (.if_icmp .gt 7, 3, 0, 0, 0) := by decide +kernel
theorem qii_10 : xe_look (xc 124) 10 = some (.iconst 1, 1, 0, 0, 0) := by decide +kernel
theorem qii_11 : xe_look (xc 124) 11 = some (.goto 4, 3, 0, 0, 0) := by decide +kernel
theorem qii_14 : xe_look (xc 124) 14 = some (.iconst 0, 1, 0, 0, 0) := by decide +kernel
theorem qii_15 : xe_look (xc 124) 15 = some (.ireturn, 1, 0, 0, 0) := by decide +kernel
theorem ii_run {d : Nat} {g : pH} {lv : List (Nat × pv)} {a b c : Int} {P : Option pv × pH → Prop} (ha : -2147483648 ≤ a ∧ a ≤ 2147483647) (hb : -2147483648 ≤ b ∧ b ≤ 2147483647) (hc : -2147483648 ≤ c ∧ c ≤ 2147483647) (l0 : px_lg lv 0 = some (oI a)) (l1 : px_lg lv 1 = some (oI b)) (l2 : px_lg lv 2 = some (oI c)) (h1 : b ≤ a ∧ a ≤ c → P (some (oI 1), g)) (h0 : a < b ∨ c < a → P (some (oI 0), g)) : t_X d 124 0 lv [] g P := by
  refine t_0 qii_0 rfl (ld_i l0) ?_
  refine t_0 qii_1 rfl (ld_i l1) ?_
  refine tb_lt qii_2 (by decide) ⟨by omega, by omega⟩ ⟨by omega, by omega⟩ (fun c1 => ?_) (fun c1 => ?_)
  · show t_X d 124 14 lv [] g P
    refine t_0 qii_14 rfl rfl ?_
    refine t_5 qii_15 rfl rfl ?_
    exact h0 (by omega)
  · show t_X d 124 5 lv [] g P
    refine t_0 qii_5 rfl (ld_i l0) ?_
    refine t_0 qii_6 rfl (ld_i l2) ?_
    refine tb_gt qii_7 (by decide) ⟨by omega, by omega⟩ ⟨by omega, by omega⟩ (fun c2 => ?_) (fun c2 => ?_)
    · show t_X d 124 14 lv [] g P
      refine t_0 qii_14 rfl rfl ?_
      refine t_5 qii_15 rfl rfl ?_
      exact h0 (by omega)
    · show t_X d 124 10 lv [] g P
      refine t_0 qii_10 rfl rfl ?_
      refine t_1 qii_11 rfl (pb_goto (pc := 11) (by decide)) ?_
      refine t_5 qii_15 rfl rfl ?_
      exact h1 (by omega)
theorem el_2 : eL[2]? = some (0, 8) := by decide +kernel
theorem gc_0 : (eG (cn 0 + 2)).2.2 = [3] := by decide +kernel
theorem gI_o {h : pH} {k x y r : Nat} {s : String} (hG : g_I eG h) (hk : eL[k]? = some (0, x)) (hy : y < pnf x) (ht : xk_ty x y = .object s) (hg : (eG (cn k + y)).2.2 = [r + 1]) : pF h x k y = .inr (.inr (some r)) := by
  have h1 := (hG k (0, x) hk).1 rfl y hy
  have e : pF h x k y = .inr (.inr (h.2.2.1 k y)) := by
    unfold pF
    rw [ht]
  rw [e] at h1 ⊢
  have h2 := h1.2.2
  rw [hg] at h2
  rcases h2 with h2 | h2
  · cases h2
  · have h2 := List.mem_singleton.mp h2
    cases hq : h.2.2.1 k y with
    | none =>
      rw [hq] at h2
      cases h2
    | some q =>
      rw [hq] at h2
      have h3 : ((q : Int) + 1).toNat = r + 1 := h2
      rw [show q = r by omega]

