/-! small methods of turning: both sides (printed by wip/e2/x24.py) -/
theorem vak_0 : xe_look (xc 166) 0 = some (.iconst 0, 1, 0, 0, 0) := by decide +kernel
theorem vak_1 : xe_look (xc 166) 1 = some (.istore_n 3, 1, 0, 0, 0) := by decide +kernel
theorem vak_2 : xe_look (xc 166) 2 = some (.iconst 0, 1, 0, 0, 0) := by decide +kernel
theorem vak_3 : xe_look (xc 166) 3 = some (.istore 4, 2, 0, 0, 0) := by decide +kernel
theorem vak_5 : xe_look (xc 166) 5 = some (.iload 4, 2, 0, 0, 0) := by decide +kernel
theorem vak_7 : xe_look (xc 166) 7 = some (.bipush 8, 2, 0, 0, 0) := by decide +kernel
theorem vak_9 : xe_look (xc 166) 9 = some (.if_icmp .ge 27, 3, 0, 0, 0) := by decide +kernel
theorem vak_12 : xe_look (xc 166) 12 = some (.aload_n 0, 1, 0, 0, 0) := by decide +kernel
theorem vak_13 : xe_look (xc 166) 13 = some (.iload_n 1, 1, 0, 0, 0) := by decide +kernel
theorem vak_14 : xe_look (xc 166) 14 = some (.iload 4, 2, 0, 0, 0) := by decide +kernel
theorem vak_16 : xe_look (xc 166) 16 = some (.iload_n 2, 1, 0, 0, 0) := by decide +kernel
theorem vak_17 : xe_look (xc 166) 17 = some (.invokevirtual 230, 3, 0, 167, 1115) := by decide +kernel
theorem vak_20 : xe_look (xc 166) 20 = some (.ifCond .eq 10, 3, 0, 0, 0) := by decide +kernel
theorem vak_23 : xe_look (xc 166) 23 = some (.iload_n 3, 1, 0, 0, 0) := by decide +kernel
theorem vak_24 : xe_look (xc 166) 24 = some (.iconst 1, 1, 0, 0, 0) := by decide +kernel
theorem vak_25 : xe_look (xc 166) 25 = some (.iload 4, 2, 0, 0, 0) := by decide +kernel
theorem vak_27 : xe_look (xc 166) 27 = some (.ishl, 1, 0, 0, 0) := by decide +kernel
theorem vak_28 : xe_look (xc 166) 28 = some (.ior, 1, 0, 0, 0) := by decide +kernel
theorem vak_29 : xe_look (xc 166) 29 = some (.istore_n 3, 1, 0, 0, 0) := by decide +kernel
theorem vak_30 : xe_look (xc 166) 30 = some (.iinc 4 1, 3, 0, 0, 0) := by decide +kernel
theorem vak_33 : xe_look (xc 166) 33 = some (.goto (-28), 3, 0, 0, 0) := by decide +kernel
theorem vak_36 : xe_look (xc 166) 36 = some (.iload_n 3, 1, 0, 0, 0) := by decide +kernel
theorem vak_37 : xe_look (xc 166) 37 = some (.ireturn, 1, 0, 0, 0) := by decide +kernel
theorem vbo_0 : xe_look (xc 172) 0 = some (.iload_n 0, 1, 0, 0, 0) := by decide +kernel
theorem vbo_1 : xe_look (xc 172) 1 = some (.iconst 4, 1, 0, 0, 0) := by decide +kernel
theorem vbo_2 : xe_look (xc 172) 2 = some (.iand, 1, 0, 0, 0) := by decide +kernel
theorem vbo_3 : xe_look (xc 172) 3 = some (.iload_n 1, 1, 0, 0, 0) := by decide +kernel
theorem vbo_4 : xe_look (xc 172) 4 = some (.iconst 4, 1, 0, 0, 0) := by decide +kernel
theorem vbo_5 : xe_look (xc 172) 5 = some (.iand, 1, 0, 0, 0) := by decide +kernel
theorem vbo_6 : xe_look (xc 172) 6 = some (.ixor, 1, 0, 0, 0) := by decide +kernel
theorem vbo_7 : xe_look (xc 172) 7 = some (.iload_n 1, 1, 0, 0, 0) := by decide +kernel
theorem vbo_8 : xe_look (xc 172) 8 = some (.iconst 4, 1, 0, 0, 0) := by decide +kernel
theorem vbo_9 : xe_look (xc 172) 9 = some (.irem, 1, 0, 0, 0) := by decide +kernel
theorem vbo_10 : xe_look (xc 172) 10 = some (.iload_n 1, 1, 0, 0, 0) := by decide +kernel
theorem vbo_11 : xe_look (xc 172) 11 = some (.iconst 3, 1, 0, 0, 0) := by decide +kernel
theorem vbo_12 : xe_look (xc 172) 12 = some (.if_icmp .le 11, 3, 0, 0, 0) := by decide +kernel
theorem vbo_15 : xe_look (xc 172) 15 = some (.iconst 4, 1, 0, 0, 0) := by decide +kernel
theorem vbo_16 : xe_look (xc 172) 16 = some (.iload_n 0, 1, 0, 0, 0) := by decide +kernel
theorem vbo_17 : xe_look (xc 172) 17 = some (.iconst 4, 1, 0, 0, 0) := by decide +kernel
theorem vbo_18 : xe_look (xc 172) 18 = some (.irem, 1, 0, 0, 0) := by decide +kernel
theorem vbo_19 : xe_look (xc 172) 19 = some (.isub, 1, 0, 0, 0) := by decide +kernel
theorem vbo_20 : xe_look (xc 172) 20 = some (.goto 6, 3, 0, 0, 0) := by decide +kernel
theorem vbo_23 : xe_look (xc 172) 23 = some (.iload_n 0, 1, 0, 0, 0) := by decide +kernel
theorem vbo_24 : xe_look (xc 172) 24 = some (.iconst 4, 1, 0, 0, 0) := by decide +kernel
theorem vbo_25 : xe_look (xc 172) 25 = some (.irem, 1, 0, 0, 0) := by decide +kernel
theorem vbo_26 : xe_look (xc 172) 26 = some (.iadd, 1, 0, 0, 0) := by decide +kernel
theorem vbo_27 : xe_look (xc 172) 27 = some (.iconst 4, 1, 0, 0, 0) := by decide +kernel
theorem vbo_28 : xe_look (xc 172) 28 = some (.irem, 1, 0, 0, 0) := by decide +kernel
theorem vbo_29 : xe_look (xc 172) 29 = some (.iadd, 1, 0, 0, 0) := by decide +kernel
theorem vbo_30 : xe_look (xc 172) 30 = some (.ireturn, 1, 0, 0, 0) := by decide +kernel
theorem vhs_0 : xe_look (xc 196) 0 = some (.iload_n 0, 1, 0, 0, 0) := by decide +kernel
theorem vhs_1 : xe_look (xc 196) 1 = some (.iload_n 1, 1, 0, 0, 0) := by decide +kernel
theorem vhs_2 : xe_look (xc 196) 2 = some (.ishr, 1, 0, 0, 0) := by decide +kernel
theorem vhs_3 : xe_look (xc 196) 3 = some (.iconst 1, 1, 0, 0, 0) := by decide +kernel
theorem vhs_4 : xe_look (xc 196) 4 = some (.iand, 1, 0, 0, 0) := by decide +kernel
theorem vhs_5 : xe_look (xc 196) 5 = some (.iconst 1, 1, 0, 0, 0) := by decide +kernel
theorem vhs_6 : xe_look (xc 196) 6 = some (.if_icmp .ne 7, 3, 0, 0, 0) := by decide +kernel
theorem vhs_9 : xe_look (xc 196) 9 = some (.iconst 1, 1, 0, 0, 0) := by decide +kernel
theorem vhs_10 : xe_look (xc 196) 10 = some (.goto 4, 3, 0, 0, 0) := by decide +kernel
theorem vhs_13 : xe_look (xc 196) 13 = some (.iconst 0, 1, 0, 0, 0) := by decide +kernel
theorem vhs_14 : xe_look (xc 196) 14 = some (.ireturn, 1, 0, 0, 0) := by decide +kernel
theorem vir_0 : xe_look (xc 75) 0 = some (.aload_n 0, 1, 0, 0, 0) := by decide +kernel
theorem vir_1 : xe_look (xc 75) 1 = some (.getfield 47, 3, 7, 8, 918) := by decide +kernel
theorem vir_4 : xe_look (xc 75) 4 = some (.iload_n 1, 1, 0, 0, 0) := by decide +kernel
theorem vir_5 : xe_look (xc 75) 5 = some (.ishr, 1, 0, 0, 0) := by decide +kernel
theorem vir_6 : xe_look (xc 75) 6 = some (.iconst 1, 1, 0, 0, 0) := by decide +kernel
theorem vir_7 : xe_look (xc 75) 7 = some (.iand, 1, 0, 0, 0) := by decide +kernel
theorem vir_8 : xe_look (xc 75) 8 = some (.ifCond .eq 7, 3, 0, 0, 0) := by decide +kernel
theorem vir_11 : xe_look (xc 75) 11 = some (.iconst 1, 1, 0, 0, 0) := by decide +kernel
theorem vir_12 : xe_look (xc 75) 12 = some (.goto 4, 3, 0, 0, 0) := by decide +kernel
theorem vir_15 : xe_look (xc 75) 15 = some (.iconst 0, 1, 0, 0, 0) := by decide +kernel
theorem vir_16 : xe_look (xc 75) 16 = some (.ireturn, 1, 0, 0, 0) := by decide +kernel
theorem vtb_0 : xe_look (xc 159) 0 = some (.iload_n 0, 1, 0, 0, 0) := by decide +kernel
theorem vtb_1 : xe_look (xc 159) 1 = some (.invokestatic 169, 3, 0, 161, 992) := by decide +kernel
theorem vtb_4 : xe_look (xc 159) 4 = some (.iload_n 1, 1, 0, 0, 0) := by decide +kernel
theorem vtb_5 : xe_look (xc 159) 5 = some (.invokestatic 165, 3, 0, 163, 1093) := by decide +kernel
theorem vtb_8 : xe_look (xc 159) 8 = some (.ireturn, 1, 0, 0, 0) := by decide +kernel
theorem vwb_0 : xe_look (xc 161) 0 = some (.iload_n 0, 1, 0, 0, 0) := by decide +kernel
theorem vwb_1 : xe_look (xc 161) 1 = some (.iconst 4, 1, 0, 0, 0) := by decide +kernel
theorem vwb_2 : xe_look (xc 161) 2 = some (.if_icmp .lt 7, 3, 0, 0, 0) := by decide +kernel
theorem vwb_5 : xe_look (xc 161) 5 = some (.iload_n 0, 1, 0, 0, 0) := by decide +kernel
theorem vwb_6 : xe_look (xc 161) 6 = some (.goto 7, 3, 0, 0, 0) := by decide +kernel
theorem vwb_9 : xe_look (xc 161) 9 = some (.iload_n 0, 1, 0, 0, 0) := by decide +kernel
theorem vwb_10 : xe_look (xc 161) 10 = some (.ineg, 1, 0, 0, 0) := by decide +kernel
theorem vwb_11 : xe_look (xc 161) 11 = some (.iconst 3, 1, 0, 0, 0) := by decide +kernel
theorem vwb_12 : xe_look (xc 161) 12 = some (.iand, 1, 0, 0, 0) := by decide +kernel
theorem vwb_13 : xe_look (xc 161) 13 = some (.ireturn, 1, 0, 0, 0) := by decide +kernel
theorem vwt_0 : xe_look (xc 163) 0 = some (.iload_n 1, 1, 0, 0, 0) := by decide +kernel
theorem vwt_1 : xe_look (xc 163) 1 = some (.iconst 4, 1, 0, 0, 0) := by decide +kernel
theorem vwt_2 : xe_look (xc 163) 2 = some (.if_icmp .lt 9, 3, 0, 0, 0) := by decide +kernel
theorem vwt_5 : xe_look (xc 163) 5 = some (.iload_n 1, 1, 0, 0, 0) := by decide +kernel
theorem vwt_6 : xe_look (xc 163) 6 = some (.iload_n 0, 1, 0, 0, 0) := by decide +kernel
theorem vwt_7 : xe_look (xc 163) 7 = some (.isub, 1, 0, 0, 0) := by decide +kernel
theorem vwt_8 : xe_look (xc 163) 8 = some (.goto 6, 3, 0, 0, 0) := by decide +kernel
theorem vwt_11 : xe_look (xc 163) 11 = some (.iload_n 1, 1, 0, 0, 0) := by decide +kernel
theorem vwt_12 : xe_look (xc 163) 12 = some (.iload_n 0, 1, 0, 0, 0) := by decide +kernel
theorem vwt_13 : xe_look (xc 163) 13 = some (.iadd, 1, 0, 0, 0) := by decide +kernel
theorem vwt_14 : xe_look (xc 163) 14 = some (.istore_n 2, 1, 0, 0, 0) := by decide +kernel
theorem vwt_15 : xe_look (xc 163) 15 = some (.iload_n 0, 1, 0, 0, 0) := by decide +kernel
theorem vwt_16 : xe_look (xc 163) 16 = some (.iload_n 1, 1, 0, 0, 0) := by decide +kernel
theorem vwt_17 : xe_look (xc 163) 17 = some (.ixor, 1, 0, 0, 0) := by decide +kernel
theorem vwt_18 : xe_look (xc 163) 18 = some (.iconst 4, 1, 0, 0, 0) := by decide +kernel
theorem vwt_19 : xe_look (xc 163) 19 = some (.iand, 1, 0, 0, 0) := by decide +kernel
theorem vwt_20 : xe_look (xc 163) 20 = some (.iload_n 2, 1, 0, 0, 0) := by decide +kernel
theorem vwt_21 : xe_look (xc 163) 21 = some (.iconst 3, 1, 0, 0, 0) := by decide +kernel
theorem vwt_22 : xe_look (xc 163) 22 = some (.iand, 1, 0, 0, 0) := by decide +kernel
theorem vwt_23 : xe_look (xc 163) 23 = some (.ior, 1, 0, 0, 0) := by decide +kernel
theorem vwt_24 : xe_look (xc 163) 24 = some (.ireturn, 1, 0, 0, 0) := by decide +kernel
section HO
variable {d x y : Nat} {lv : List (Nat × pv)} {h : pH} {r : List pv}
theorem pq_ho {a b : Int32} {e : Int} (q : a ||| b = Int32.ofInt e) : px_push eL d none .ior x y lv (.inl b :: .inl a :: r) h = some (oI e :: r) := by
  show some ((.inl (a ||| b) : pv) :: r) = _
  rw [q]
theorem pq_hs {a b : Int32} {e : Int} (q : a <<< (b &&& 31) = Int32.ofInt e) : px_push eL d none .ishl x y lv (.inl b :: .inl a :: r) h = some (oI e :: r) := by
  show some ((.inl (a <<< (b &&& 31)) : pv) :: r) = _
  rw [q]
end HO
theorem wz_0 : ∀ a : Nat, a < 8 → ∀ b : Nat, b < 8 → (b : Int) ≤ 3 → (((Int32.ofInt ((a : Int))) &&& (Int32.ofInt (4))) ^^^ ((Int32.ofInt ((b : Int))) &&& (Int32.ofInt (4)))) + (Int32.ofInt ((((b : Int) % 4) + ((a : Int) % 4)) % 4)) = Int32.ofInt (((cpW a b : Nat) : Int)) := by decide +kernel
theorem wz_1 : ∀ a : Nat, a < 8 → ∀ b : Nat, b < 8 → ¬ (b : Int) ≤ 3 → (((Int32.ofInt ((a : Int))) &&& (Int32.ofInt (4))) ^^^ ((Int32.ofInt ((b : Int))) &&& (Int32.ofInt (4)))) + (Int32.ofInt ((((b : Int) % 4) + (4 - ((a : Int) % 4))) % 4)) = Int32.ofInt (((cpW a b : Nat) : Int)) := by decide +kernel
theorem wz_2 : ∀ a : Nat, a < 8 → ∀ b : Nat, b < 8 → (b : Int) < 4 → ((((Int32.ofInt ((a : Int))) ^^^ (Int32.ofInt ((b : Int)))) &&& (Int32.ofInt (4))) ||| ((Int32.ofInt ((b : Int) + (a : Int))) &&& (Int32.ofInt (3)))) = Int32.ofInt (((cpW a b : Nat) : Int)) := by decide +kernel
theorem wz_3 : ∀ a : Nat, a < 8 → ∀ b : Nat, b < 8 → ¬ (b : Int) < 4 → ((((Int32.ofInt ((a : Int))) ^^^ (Int32.ofInt ((b : Int)))) &&& (Int32.ofInt (4))) ||| ((Int32.ofInt ((b : Int) - (a : Int))) &&& (Int32.ofInt (3)))) = Int32.ofInt (((cpW a b : Nat) : Int)) := by decide +kernel
theorem wz_4 : ∀ a : Nat, a < 8 → (a : Int) < 4 → ((Int32.ofInt (-((a : Int)))) &&& (Int32.ofInt (3))) = Int32.ofInt (((bkW a : Nat) : Int)) := by decide +kernel
theorem bt_ax {pic : tC} : ∀ w : Nat, w < 8 → ((Int32.ofInt (alB pic 8) >>> (Int32.ofInt (w : Int) &&& 31)) &&& Int32.ofInt 1) = Int32.ofInt (if alN pic w then 1 else 0) := by
  intro w hw
  have b := alB_b (pic := pic) 8
  have h2 : ((2 ^ 8 : Nat) : Int) = 256 := rfl
  have := bt_n (alB pic 8).toNat (by omega) w hw
  rw [Int.toNat_of_nonneg b.1, alB_t 8 (Nat.le_refl _) w hw] at this
  rw [this]
  have e : decide (w < 8) = true := decide_eq_true hw
  rw [e, Bool.true_and]
theorem ykeo_196 : eL[196]? = some (0, 12) := by decide +kernel
theorem vbo_run {a b : Nat} (ha : a < 8) (hb : b < 8) {d : Nat} {g : pH} {P : Option pv × pH → Prop} (hP : P (some (oI ((cpW a b : Nat) : Int)), g)) {lv : List (Nat × pv)} (l0 : px_lg lv 0 = some (oI (a : Int))) (l1 : px_lg lv 1 = some (oI (b : Int))) : t_X d 172 0 lv [] g P := by
  refine t_0 vbo_0 rfl (ld_i l0) ?_
  refine t_0 vbo_1 rfl rfl ?_
  refine t_0 vbo_2 rfl rfl ?_
  refine t_0 vbo_3 rfl (ld_i l1) ?_
  refine t_0 vbo_4 rfl rfl ?_
  refine t_0 vbo_5 rfl rfl ?_
  refine t_0 vbo_6 rfl rfl ?_
  refine t_0 vbo_7 rfl (ld_i l1) ?_
  refine t_0 vbo_8 rfl rfl ?_
  refine t_0 vbo_9 rfl (pq_rem ⟨by omega, by omega⟩ ⟨by omega, by omega⟩) ?_
  refine t_0 vbo_10 rfl (ld_i l1) ?_
  refine t_0 vbo_11 rfl rfl ?_
  refine tb_le vbo_12 (by decide) ⟨by omega, by omega⟩ ⟨by omega, by omega⟩ (fun c1 => ?_) (fun c1 => ?_)
  · show t_X d 172 23 lv [oI ((b : Int) % 4), .inl (((Int32.ofInt ((a : Int))) &&& (Int32.ofInt (4))) ^^^ ((Int32.ofInt ((b : Int))) &&& (Int32.ofInt (4))))] g P
    refine t_0 vbo_23 rfl (ld_i l0) ?_
    refine t_0 vbo_24 rfl rfl ?_
    refine t_0 vbo_25 rfl (pq_rem ⟨by omega, by omega⟩ ⟨by omega, by omega⟩) ?_
    refine t_0 vbo_26 rfl pq_add ?_
    refine t_0 vbo_27 rfl rfl ?_
    refine t_0 vbo_28 rfl (pq_rem ⟨by omega, by omega⟩ ⟨by omega, by omega⟩) ?_
    refine t_0 vbo_29 rfl rfl ?_
    refine t_5 vbo_30 rfl rfl ?_
    exact (congrArg (fun z : Int32 => P (some (Sum.inl z : pv), g)) (wz_0 a ha b hb (by omega))).mpr hP
  · show t_X d 172 15 lv [oI ((b : Int) % 4), .inl (((Int32.ofInt ((a : Int))) &&& (Int32.ofInt (4))) ^^^ ((Int32.ofInt ((b : Int))) &&& (Int32.ofInt (4))))] g P
    refine t_0 vbo_15 rfl rfl ?_
    refine t_0 vbo_16 rfl (ld_i l0) ?_
    refine t_0 vbo_17 rfl rfl ?_
    refine t_0 vbo_18 rfl (pq_rem ⟨by omega, by omega⟩ ⟨by omega, by omega⟩) ?_
    refine t_0 vbo_19 rfl pq_sub ?_
    refine t_1 vbo_20 rfl (pb_goto (pc := 20) (by decide)) ?_
    show t_X d 172 26 lv [oI (4 - ((a : Int) % 4)), oI ((b : Int) % 4), .inl (((Int32.ofInt ((a : Int))) &&& (Int32.ofInt (4))) ^^^ ((Int32.ofInt ((b : Int))) &&& (Int32.ofInt (4))))] g P
    refine t_0 vbo_26 rfl pq_add ?_
    refine t_0 vbo_27 rfl rfl ?_
    refine t_0 vbo_28 rfl (pq_rem ⟨by omega, by omega⟩ ⟨by omega, by omega⟩) ?_
    refine t_0 vbo_29 rfl rfl ?_
    refine t_5 vbo_30 rfl rfl ?_
    exact (congrArg (fun z : Int32 => P (some (Sum.inl z : pv), g)) (wz_1 a ha b hb (by omega))).mpr hP
theorem vwt_run {a b : Nat} (ha : a < 8) (hb : b < 8) {d : Nat} {g : pH} {P : Option pv × pH → Prop} (hP : P (some (oI ((cpW a b : Nat) : Int)), g)) {lv : List (Nat × pv)} (l0 : px_lg lv 0 = some (oI (a : Int))) (l1 : px_lg lv 1 = some (oI (b : Int))) : t_X d 163 0 lv [] g P := by
  refine t_0 vwt_0 rfl (ld_i l1) ?_
  refine t_0 vwt_1 rfl rfl ?_
  refine tb_lt vwt_2 (by decide) ⟨by omega, by omega⟩ ⟨by omega, by omega⟩ (fun c1 => ?_) (fun c1 => ?_)
  · show t_X d 163 11 lv [] g P
    refine t_0 vwt_11 rfl (ld_i l1) ?_
    refine t_0 vwt_12 rfl (ld_i l0) ?_
    refine t_0 vwt_13 rfl pq_add ?_
    refine t_2 vwt_14 rfl (w := (px_s1 lv 2 (oI ((b : Int) + (a : Int))), [])) rfl ?_
    replace l0 : px_lg (px_s1 lv 2 (oI ((b : Int) + (a : Int)))) 0 = some (oI ((a : Int))) := s1_ne (by decide) (fun _ => rfl) l0
    replace l1 : px_lg (px_s1 lv 2 (oI ((b : Int) + (a : Int)))) 1 = some (oI ((b : Int))) := s1_ne (by decide) (fun _ => rfl) l1
    have l2 : px_lg (px_s1 lv 2 (oI ((b : Int) + (a : Int)))) 2 = some (oI ((b : Int) + (a : Int))) := s1_eq
    generalize px_s1 lv 2 (oI ((b : Int) + (a : Int))) = lv2 at l0 l1 l2 ⊢
    show t_X d 163 15 lv2 [] g P
    refine t_0 vwt_15 rfl (ld_i l0) ?_
    refine t_0 vwt_16 rfl (ld_i l1) ?_
    refine t_0 vwt_17 rfl rfl ?_
    refine t_0 vwt_18 rfl rfl ?_
    refine t_0 vwt_19 rfl rfl ?_
    refine t_0 vwt_20 rfl (ld_i l2) ?_
    refine t_0 vwt_21 rfl rfl ?_
    refine t_0 vwt_22 rfl rfl ?_
    refine t_0 vwt_23 rfl (pq_ho (wz_2 a ha b hb (by omega))) ?_
    refine t_5 vwt_24 rfl rfl ?_
    exact hP
  · show t_X d 163 5 lv [] g P
    refine t_0 vwt_5 rfl (ld_i l1) ?_
    refine t_0 vwt_6 rfl (ld_i l0) ?_
    refine t_0 vwt_7 rfl pq_sub ?_
    refine t_1 vwt_8 rfl (pb_goto (pc := 8) (by decide)) ?_
    show t_X d 163 14 lv [oI ((b : Int) - (a : Int))] g P
    refine t_2 vwt_14 rfl (w := (px_s1 lv 2 (oI ((b : Int) - (a : Int))), [])) rfl ?_
    replace l0 : px_lg (px_s1 lv 2 (oI ((b : Int) - (a : Int)))) 0 = some (oI ((a : Int))) := s1_ne (by decide) (fun _ => rfl) l0
    replace l1 : px_lg (px_s1 lv 2 (oI ((b : Int) - (a : Int)))) 1 = some (oI ((b : Int))) := s1_ne (by decide) (fun _ => rfl) l1
    have l2 : px_lg (px_s1 lv 2 (oI ((b : Int) - (a : Int)))) 2 = some (oI ((b : Int) - (a : Int))) := s1_eq
    generalize px_s1 lv 2 (oI ((b : Int) - (a : Int))) = lv3 at l0 l1 l2 ⊢
    show t_X d 163 15 lv3 [] g P
    refine t_0 vwt_15 rfl (ld_i l0) ?_
    refine t_0 vwt_16 rfl (ld_i l1) ?_
    refine t_0 vwt_17 rfl rfl ?_
    refine t_0 vwt_18 rfl rfl ?_
    refine t_0 vwt_19 rfl rfl ?_
    refine t_0 vwt_20 rfl (ld_i l2) ?_
    refine t_0 vwt_21 rfl rfl ?_
    refine t_0 vwt_22 rfl rfl ?_
    refine t_0 vwt_23 rfl (pq_ho (wz_3 a ha b hb (by omega))) ?_
    refine t_5 vwt_24 rfl rfl ?_
    exact hP
theorem vwb_run {a : Nat} (ha : a < 8) {d : Nat} {g : pH} {P : Option pv × pH → Prop} (hP : P (some (oI ((bkW a : Nat) : Int)), g)) {lv : List (Nat × pv)} (l0 : px_lg lv 0 = some (oI (a : Int))) : t_X d 161 0 lv [] g P := by
  refine t_0 vwb_0 rfl (ld_i l0) ?_
  refine t_0 vwb_1 rfl rfl ?_
  refine tb_lt vwb_2 (by decide) ⟨by omega, by omega⟩ ⟨by omega, by omega⟩ (fun c1 => ?_) (fun c1 => ?_)
  · show t_X d 161 9 lv [] g P
    refine t_0 vwb_9 rfl (ld_i l0) ?_
    refine t_0 vwb_10 rfl pq_ng ?_
    refine t_0 vwb_11 rfl rfl ?_
    refine t_0 vwb_12 rfl (pq_hb (wz_4 a ha (by omega))) ?_
    refine t_5 vwb_13 rfl rfl ?_
    exact hP
  · show t_X d 161 5 lv [] g P
    refine t_0 vwb_5 rfl (ld_i l0) ?_
    refine t_1 vwb_6 rfl (pb_goto (pc := 6) (by decide)) ?_
    show t_X d 161 13 lv [oI ((a : Int))] g P
    refine t_5 vwb_13 rfl rfl ?_
    exact (congrArg (fun z : Nat => P (some (oI (z : Int)), g)) ((bkW_l a ha).2 (by omega))).mp hP
theorem vtb_run {a b : Nat} (ha : a < 8) (hb : b < 8) {d : Nat} (hd : 1 ≤ d) {g : pH} {P : Option pv × pH → Prop} (hP : P (some (oI ((tbW a b : Nat) : Int)), g)) {lv : List (Nat × pv)} (l0 : px_lg lv 0 = some (oI (a : Int))) (l1 : px_lg lv 1 = some (oI (b : Int))) : t_X d 159 0 lv [] g P := by
  refine t_0 vtb_0 rfl (ld_i l0) ?_
  refine t_3 vtb_1 rfl (ar := ([oI ((a : Int))], [])) (pcal_s ⟨Or.inl rfl, rfl, Nat.le_of_ble_eq_true rfl⟩) ⟨by omega, Nat.le_of_ble_eq_true rfl, Nat.le_of_ble_eq_true rfl, rfl⟩ ?_
  refine vwb_run ha ?_ rfl
  show t_X d 159 4 lv [oI (((bkW a : Nat) : Int))] g P
  refine t_0 vtb_4 rfl (ld_i l1) ?_
  refine t_3 vtb_5 rfl (ar := ([oI (((bkW a : Nat) : Int)), oI ((b : Int))], [])) (pcal_s ⟨Or.inl rfl, rfl, Nat.le_of_ble_eq_true rfl⟩) ⟨by omega, Nat.le_of_ble_eq_true rfl, Nat.le_of_ble_eq_true rfl, rfl⟩ ?_
  refine vwt_run (bkW_l a ha).1 hb ?_ rfl rfl
  show t_X d 159 8 lv [oI (((cpW (bkW a) b : Nat) : Int))] g P
  refine t_5 vtb_8 rfl rfl ?_
  exact hP
theorem vhs_run {set w : Nat} (hs : set < 256) (hw : w < 8) {d : Nat} {g : pH} {P : Option pv × pH → Prop} (h1 : set.testBit w = true → P (some (oI 1), g)) (h0 : set.testBit w = false → P (some (oI 0), g)) {lv : List (Nat × pv)} (l0 : px_lg lv 0 = some (oI (set : Int))) (l1 : px_lg lv 1 = some (oI (w : Int))) : t_X d 196 0 lv [] g P := by
  cases qb : set.testBit w with
  | true =>
    refine t_0 vhs_0 rfl (ld_i l0) ?_
    refine t_0 vhs_1 rfl (ld_i l1) ?_
    refine t_0 vhs_2 rfl rfl ?_
    refine t_0 vhs_3 rfl rfl ?_
    refine t_0 vhs_4 rfl (pq_hb (e := 1) (by rw [bt_n set hs w hw, qb]; first | done | rfl)) ?_
    refine t_0 vhs_5 rfl rfl ?_
    refine tb_ne vhs_6 (by decide) ⟨by omega, by omega⟩ ⟨by omega, by omega⟩ (fun c1 => absurd c1 (by omega)) (fun c1 => ?_)
    show t_X d 196 9 lv [] g P
    refine t_0 vhs_9 rfl rfl ?_
    refine t_1 vhs_10 rfl (pb_goto (pc := 10) (by decide)) ?_
    show t_X d 196 14 lv [oI 1] g P
    refine t_5 vhs_14 rfl rfl ?_
    exact h1 qb
  | false =>
    refine t_0 vhs_0 rfl (ld_i l0) ?_
    refine t_0 vhs_1 rfl (ld_i l1) ?_
    refine t_0 vhs_2 rfl rfl ?_
    refine t_0 vhs_3 rfl rfl ?_
    refine t_0 vhs_4 rfl (pq_hb (e := 0) (by rw [bt_n set hs w hw, qb]; first | done | rfl)) ?_
    refine t_0 vhs_5 rfl rfl ?_
    refine tb_ne vhs_6 (by decide) ⟨by omega, by omega⟩ ⟨by omega, by omega⟩ (fun c1 => ?_) (fun c1 => absurd c1 (by omega))
    show t_X d 196 13 lv [] g P
    refine t_0 vhs_13 rfl rfl ?_
    refine t_5 vhs_14 rfl rfl ?_
    exact h0 qb
theorem vir_run {m : Nat} (hm : m < 32) {w : Nat} (hw : w < 8) {d : Nat} {g : pH} {pic : tC} (h8 : cF g (4 + 2 * m) 8 = alB pic 8) {P : Option pv × pH → Prop} (h1 : alN pic w = true → P (some (oI 1), g)) (h0 : alN pic w = false → P (some (oI 0), g)) {lv : List (Nat × pv)} (l0 : px_lg lv 0 = some (pvR (4 + 2 * m))) (l1 : px_lg lv 1 = some (oI (w : Int))) : t_X d 75 0 lv [] g P := by
  cases qb : alN pic w with
  | true =>
    refine t_0 vir_0 rfl (ld_a l0) ?_
    refine t_0 vir_1 rfl (pq_cv (el_s4 hm) rfl h8) ?_
    show t_X d 75 4 lv [oI (alB pic 8)] g P
    refine t_0 vir_4 rfl (ld_i l1) ?_
    refine t_0 vir_5 rfl rfl ?_
    refine t_0 vir_6 rfl rfl ?_
    refine t_0 vir_7 rfl (pq_hb (e := 1) (by rw [bt_ax w hw, qb]; first | done | rfl)) ?_
    refine tz_eq vir_8 (by decide) ⟨by omega, by omega⟩ (fun c1 => absurd c1 (by omega)) (fun c1 => ?_)
    show t_X d 75 11 lv [] g P
    refine t_0 vir_11 rfl rfl ?_
    refine t_1 vir_12 rfl (pb_goto (pc := 12) (by decide)) ?_
    show t_X d 75 16 lv [oI 1] g P
    refine t_5 vir_16 rfl rfl ?_
    exact h1 qb
  | false =>
    refine t_0 vir_0 rfl (ld_a l0) ?_
    refine t_0 vir_1 rfl (pq_cv (el_s4 hm) rfl h8) ?_
    show t_X d 75 4 lv [oI (alB pic 8)] g P
    refine t_0 vir_4 rfl (ld_i l1) ?_
    refine t_0 vir_5 rfl rfl ?_
    refine t_0 vir_6 rfl rfl ?_
    refine t_0 vir_7 rfl (pq_hb (e := 0) (by rw [bt_ax w hw, qb]; first | done | rfl)) ?_
    refine tz_eq vir_8 (by decide) ⟨by omega, by omega⟩ (fun c1 => ?_) (fun c1 => absurd c1 (by omega))
    show t_X d 75 15 lv [] g P
    refine t_0 vir_15 rfl rfl ?_
    refine t_5 vir_16 rfl rfl ?_
    exact h0 qb
theorem vak_loop {m : Nat} (hm : m < 32) {d : Nat} (hd : 2 ≤ d) {g : pH} (hG : g_I eG g) {pic : tC} (hp : ∀ j : Nat, j < 25 → pic j = fA g 210 (25 * m + j)) (hpb : ∀ j, -2147483648 ≤ pic j ∧ pic j ≤ 2147483647) {P : Option pv × pH → Prop} (hP : P (some (oI ((rB (alN pic) 8 : Nat) : Int)), g)) : ∀ (r k : Nat) (lv : List (Nat × pv)), 8 - k ≤ r → k ≤ 8 → px_lg lv 0 = some (pvR 196) → px_lg lv 1 = some (oI (m : Int)) → px_lg lv 2 = some (oI 0) → px_lg lv 3 = some (oI ((rB (alN pic) k : Nat) : Int)) → px_lg lv 4 = some (oI (k : Int)) → t_X d 166 5 lv [] g P := by
  have hd1 : 1 ≤ d - 1 := by omega
  intro r
  induction r with
  | zero =>
    intro k lv hr hk2 l0 l1 l2 l3 l4
    refine t_0 vak_5 rfl (ld_i l4) ?_
    refine t_0 vak_7 rfl (pq_b (by decide)) ?_
    refine tb_ge vak_9 (by decide) ⟨by omega, by omega⟩ ⟨by omega, by omega⟩ (fun c1 => ?_) (fun c1 => absurd c1 (by omega))
    show t_X d 166 36 lv [] g P
    refine t_0 vak_36 rfl (ld_i l3) ?_
    refine t_5 vak_37 rfl rfl ?_
    obtain rfl : k = 8 := by omega
    exact hP
  | succ r ih =>
    intro k lv hr hk2 l0 l1 l2 l3 l4
    by_cases hk : k < 8
    · skip
      refine t_0 vak_5 rfl (ld_i l4) ?_
      refine t_0 vak_7 rfl (pq_b (by decide)) ?_
      refine tb_ge vak_9 (by decide) ⟨by omega, by omega⟩ ⟨by omega, by omega⟩ (fun c1 => absurd c1 (by omega)) (fun c1 => ?_)
      show t_X d 166 12 lv [] g P
      refine t_0 vak_12 rfl (ld_a l0) ?_
      refine t_0 vak_13 rfl (ld_i l1) ?_
      refine t_0 vak_14 rfl (ld_i l4) ?_
      refine t_0 vak_16 rfl (ld_i l2) ?_
      refine t_3 vak_17 rfl (ar := ([pvR 196, oI ((m : Int)), oI ((k : Int)), oI 0], [])) (pcal_w (as := [oI 0, oI ((k : Int)), oI ((m : Int))]) rfl rfl rfl ykeo_196) ⟨by omega, Nat.le_of_ble_eq_true rfl, Nat.le_of_ble_eq_true rfl, rfl⟩ ?_
      refine vaa_run hm hk hd1 hG hp hpb (fun q0 => ?_) (fun q0 => ?_) rfl rfl rfl rfl
      · show t_X d 166 20 lv [oI 1] g P
        refine tz_eq vak_20 (by decide) ⟨by omega, by omega⟩ (fun c2 => absurd c2 (by omega)) (fun c2 => ?_)
        show t_X d 166 23 lv [] g P
        refine t_0 vak_23 rfl (ld_i l3) ?_
        refine t_0 vak_24 rfl rfl ?_
        refine t_0 vak_25 rfl (ld_i l4) ?_
        refine t_0 vak_27 rfl rfl ?_
        refine t_0 vak_28 rfl (pq_ho (or_n hk)) ?_
        refine t_2 vak_29 rfl (w := (px_s1 lv 3 (oI (((rB (alN pic) k ||| 2 ^ k : Nat) : Int))), [])) rfl ?_
        replace l0 : px_lg (px_s1 lv 3 (oI (((rB (alN pic) k ||| 2 ^ k : Nat) : Int)))) 0 = some (pvR 196) := s1_ne (by decide) (fun _ => rfl) l0
        replace l1 : px_lg (px_s1 lv 3 (oI (((rB (alN pic) k ||| 2 ^ k : Nat) : Int)))) 1 = some (oI ((m : Int))) := s1_ne (by decide) (fun _ => rfl) l1
        replace l2 : px_lg (px_s1 lv 3 (oI (((rB (alN pic) k ||| 2 ^ k : Nat) : Int)))) 2 = some (oI 0) := s1_ne (by decide) (fun _ => rfl) l2
        replace l4 : px_lg (px_s1 lv 3 (oI (((rB (alN pic) k ||| 2 ^ k : Nat) : Int)))) 4 = some (oI ((k : Int))) := s1_ne (by decide) (fun _ => rfl) l4
        have l3 : px_lg (px_s1 lv 3 (oI (((rB (alN pic) k ||| 2 ^ k : Nat) : Int)))) 3 = some (oI (((rB (alN pic) k ||| 2 ^ k : Nat) : Int))) := s1_eq
        generalize px_s1 lv 3 (oI (((rB (alN pic) k ||| 2 ^ k : Nat) : Int))) = lv3 at l0 l1 l2 l4 l3 ⊢
        show t_X d 166 30 lv3 [] g P
        refine t_2 vak_30 rfl (w := (px_s1 lv3 4 (oI ((k : Int) + 1)), [])) (pq_inc l4 (by decide)) ?_
        replace l0 : px_lg (px_s1 lv3 4 (oI ((k : Int) + 1))) 0 = some (pvR 196) := s1_ne (by decide) (fun _ => rfl) l0
        replace l1 : px_lg (px_s1 lv3 4 (oI ((k : Int) + 1))) 1 = some (oI ((m : Int))) := s1_ne (by decide) (fun _ => rfl) l1
        replace l2 : px_lg (px_s1 lv3 4 (oI ((k : Int) + 1))) 2 = some (oI 0) := s1_ne (by decide) (fun _ => rfl) l2
        replace l3 : px_lg (px_s1 lv3 4 (oI ((k : Int) + 1))) 3 = some (oI (((rB (alN pic) k ||| 2 ^ k : Nat) : Int))) := s1_ne (by decide) (fun _ => rfl) l3
        have l4 : px_lg (px_s1 lv3 4 (oI ((k : Int) + 1))) 4 = some (oI ((k : Int) + 1)) := s1_eq
        generalize px_s1 lv3 4 (oI ((k : Int) + 1)) = lv4 at l0 l1 l2 l3 l4 ⊢
        show t_X d 166 33 lv4 [] g P
        refine t_1 vak_33 rfl (pb_goto (pc := 33) (by decide)) ?_
        show t_X d 166 5 lv4 [] g P
        exact ih (k + 1) _ (by omega) (by omega) l0 l1 l2 (by rw [rB_y q0]; exact l3) l4
      · show t_X d 166 20 lv [oI 0] g P
        refine tz_eq vak_20 (by decide) ⟨by omega, by omega⟩ (fun c5 => ?_) (fun c5 => absurd c5 (by omega))
        show t_X d 166 30 lv [] g P
        refine t_2 vak_30 rfl (w := (px_s1 lv 4 (oI ((k : Int) + 1)), [])) (pq_inc l4 (by decide)) ?_
        replace l0 : px_lg (px_s1 lv 4 (oI ((k : Int) + 1))) 0 = some (pvR 196) := s1_ne (by decide) (fun _ => rfl) l0
        replace l1 : px_lg (px_s1 lv 4 (oI ((k : Int) + 1))) 1 = some (oI ((m : Int))) := s1_ne (by decide) (fun _ => rfl) l1
        replace l2 : px_lg (px_s1 lv 4 (oI ((k : Int) + 1))) 2 = some (oI 0) := s1_ne (by decide) (fun _ => rfl) l2
        replace l3 : px_lg (px_s1 lv 4 (oI ((k : Int) + 1))) 3 = some (oI (((rB (alN pic) k : Nat) : Int))) := s1_ne (by decide) (fun _ => rfl) l3
        have l4 : px_lg (px_s1 lv 4 (oI ((k : Int) + 1))) 4 = some (oI ((k : Int) + 1)) := s1_eq
        generalize px_s1 lv 4 (oI ((k : Int) + 1)) = lv6 at l0 l1 l2 l3 l4 ⊢
        show t_X d 166 33 lv6 [] g P
        refine t_1 vak_33 rfl (pb_goto (pc := 33) (by decide)) ?_
        show t_X d 166 5 lv6 [] g P
        exact ih (k + 1) _ (by omega) (by omega) l0 l1 l2 (by rw [rB_f q0]; exact l3) l4
    · skip
      refine t_0 vak_5 rfl (ld_i l4) ?_
      refine t_0 vak_7 rfl (pq_b (by decide)) ?_
      refine tb_ge vak_9 (by decide) ⟨by omega, by omega⟩ ⟨by omega, by omega⟩ (fun c1 => ?_) (fun c1 => absurd c1 (by omega))
      show t_X d 166 36 lv [] g P
      refine t_0 vak_36 rfl (ld_i l3) ?_
      refine t_5 vak_37 rfl rfl ?_
      obtain rfl : k = 8 := by omega
      exact hP
theorem vak_run {m : Nat} (hm : m < 32) {d : Nat} (hd : 2 ≤ d) {g : pH} (hG : g_I eG g) {pic : tC} (hp : ∀ j : Nat, j < 25 → pic j = fA g 210 (25 * m + j)) (hpb : ∀ j, -2147483648 ≤ pic j ∧ pic j ≤ 2147483647) {P : Option pv × pH → Prop} (hP : P (some (oI ((rB (alN pic) 8 : Nat) : Int)), g)) {lv : List (Nat × pv)} (l0 : px_lg lv 0 = some (pvR 196)) (l1 : px_lg lv 1 = some (oI (m : Int))) (l2 : px_lg lv 2 = some (oI 0)) : t_X d 166 0 lv [] g P := by
  refine t_0 vak_0 rfl rfl ?_
  refine t_2 vak_1 rfl (w := (px_s1 lv 3 (oI 0), [])) rfl ?_
  replace l0 : px_lg (px_s1 lv 3 (oI 0)) 0 = some (pvR 196) := s1_ne (by decide) (fun _ => rfl) l0
  replace l1 : px_lg (px_s1 lv 3 (oI 0)) 1 = some (oI ((m : Int))) := s1_ne (by decide) (fun _ => rfl) l1
  replace l2 : px_lg (px_s1 lv 3 (oI 0)) 2 = some (oI 0) := s1_ne (by decide) (fun _ => rfl) l2
  have l3 : px_lg (px_s1 lv 3 (oI 0)) 3 = some (oI 0) := s1_eq
  generalize px_s1 lv 3 (oI 0) = lv1 at l0 l1 l2 l3 ⊢
  show t_X d 166 2 lv1 [] g P
  refine t_0 vak_2 rfl rfl ?_
  refine t_2 vak_3 rfl (w := (px_s1 lv1 4 (oI 0), [])) rfl ?_
  replace l0 : px_lg (px_s1 lv1 4 (oI 0)) 0 = some (pvR 196) := s1_ne (by decide) (fun _ => rfl) l0
  replace l1 : px_lg (px_s1 lv1 4 (oI 0)) 1 = some (oI ((m : Int))) := s1_ne (by decide) (fun _ => rfl) l1
  replace l2 : px_lg (px_s1 lv1 4 (oI 0)) 2 = some (oI 0) := s1_ne (by decide) (fun _ => rfl) l2
  replace l3 : px_lg (px_s1 lv1 4 (oI 0)) 3 = some (oI 0) := s1_ne (by decide) (fun _ => rfl) l3
  have l4 : px_lg (px_s1 lv1 4 (oI 0)) 4 = some (oI 0) := s1_eq
  generalize px_s1 lv1 4 (oI 0) = lv2 at l0 l1 l2 l3 l4 ⊢
  show t_X d 166 5 lv2 [] g P
  exact vak_loop hm hd hG hp hpb hP 8 0 _ (by omega) (by omega) l0 l1 l2 l3 l4
