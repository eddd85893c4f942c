/-! orders of the reference, exactly: says (printed by wip/e2/y2.py) -/
theorem omy_0 : xe_look (xc 243) 0 = some (.iload_n 1, 1, 0, 0, 0) := by decide +kernel
theorem omy_1 : xe_look (xc 243) 1 = some (.iconst 2, 1, 0, 0, 0) := by decide +kernel
theorem omy_2 : xe_look (xc 243) 2 = some (.bipush 12, 2, 0, 0, 0) := by decide +kernel
theorem omy_4 : xe_look (xc 243) 4 = some (.invokestatic 201, 3, 0, 199, 1131) := by decide +kernel
theorem omy_7 : xe_look (xc 243) 7 = some (.ifCond .eq 21, 3, 0, 0, 0) := by decide +kernel
theorem omy_10 : xe_look (xc 243) 10 = some (.iload 4, 2, 0, 0, 0) := by decide +kernel
theorem omy_12 : xe_look (xc 243) 12 = some (.iconst 0, 1, 0, 0, 0) := by decide +kernel
theorem omy_13 : xe_look (xc 243) 13 = some (.iconst 3, 1, 0, 0, 0) := by decide +kernel
theorem omy_14 : xe_look (xc 243) 14 = some (.invokestatic 201, 3, 0, 199, 1131) := by decide +kernel
theorem omy_17 : xe_look (xc 243) 17 = some (.ifCond .eq 11, 3, 0, 0, 0) := by decide +kernel
theorem omy_20 : xe_look (xc 243) 20 = some (.iload_n 1, 1, 0, 0, 0) := by decide +kernel
theorem omy_21 : xe_look (xc 243) 21 = some (.aload_n 0, 1, 0, 0, 0) := by decide +kernel
theorem omy_22 : xe_look (xc 243) 22 = some (.getfield 194, 3, 12, 17, 1132) := by decide +kernel
theorem omy_25 : xe_look (xc 243) 25 = some (.if_icmp .le 7, 3, 0, 0, 0) := by decide +kernel
theorem omy_28 : xe_look (xc 243) 28 = some (.ldc2_w 447, 3, 0, 9223372036854775807, 1185) := by decide +kernel
theorem omy_31 : xe_look (xc 243) 31 = some (.lreturn, 1, 0, 0, 0) := by decide +kernel
theorem omy_32 : xe_look (xc 243) 32 = some (.aload_n 0, 1, 0, 0, 0) := by decide +kernel
theorem omy_33 : xe_look (xc 243) 33 = some (.iconst 0, 1, 0, 0, 0) := by decide +kernel
theorem omy_34 : xe_look (xc 243) 34 = some (.putfield 194, 3, 12, 17, 1132) := by decide +kernel
theorem omy_37 : xe_look (xc 243) 37 = some (.aload_n 0, 1, 0, 0, 0) := by decide +kernel
theorem omy_38 : xe_look (xc 243) 38 = some (.iload_n 1, 1, 0, 0, 0) := by decide +kernel
theorem omy_39 : xe_look (xc 243) 39 = some (.invokevirtual 497, 3, 0, 261, 1273) := by decide +kernel
theorem omy_42 : xe_look (xc 243) 42 = some (.ifCond .ne 7, 3, 0, 0, 0) := by decide +kernel
theorem omy_45 : xe_look (xc 243) 45 = some (.ldc2_w 460, 3, 0, 9223372036854775806, 1274) := by decide +kernel
theorem omy_48 : xe_look (xc 243) 48 = some (.lreturn, 1, 0, 0, 0) := by decide +kernel
theorem omy_49 : xe_look (xc 243) 49 = some (.iload 4, 2, 0, 0, 0) := by decide +kernel
theorem omy_51 : xe_look (xc 243) 51 = some (.ifCond .ne 47, 3, 0, 0, 0) := by decide +kernel
theorem omy_54 : xe_look (xc 243) 54 = some (.aload_n 0, 1, 0, 0, 0) := by decide +kernel
theorem omy_55 : xe_look (xc 243) 55 = some (.iload_n 2, 1, 0, 0, 0) := by decide +kernel
theorem omy_56 : xe_look (xc 243) 56 = some (.invokevirtual 494, 3, 0, 255, 1236) := by decide +kernel
theorem omy_59 : xe_look (xc 243) 59 = some (.iconst (-1), 1, 0, 0, 0) := by decide +kernel
theorem omy_60 : xe_look (xc 243) 60 = some (.if_icmp .eq 17, 3, 0, 0, 0) := by decide +kernel
theorem omy_63 : xe_look (xc 243) 63 = some (.aload_n 0, 1, 0, 0, 0) := by decide +kernel
theorem omy_64 : xe_look (xc 243) 64 = some (.iload_n 3, 1, 0, 0, 0) := by decide +kernel
theorem omy_65 : xe_look (xc 243) 65 = some (.invokevirtual 494, 3, 0, 255, 1236) := by decide +kernel
theorem omy_68 : xe_look (xc 243) 68 = some (.iconst (-1), 1, 0, 0, 0) := by decide +kernel
theorem omy_69 : xe_look (xc 243) 69 = some (.if_icmp .eq 8, 3, 0, 0, 0) := by decide +kernel
theorem omy_72 : xe_look (xc 243) 72 = some (.iload_n 2, 1, 0, 0, 0) := by decide +kernel
theorem omy_73 : xe_look (xc 243) 73 = some (.iload_n 3, 1, 0, 0, 0) := by decide +kernel
theorem omy_74 : xe_look (xc 243) 74 = some (.if_icmp .ne 9, 3, 0, 0, 0) := by decide +kernel
theorem omy_77 : xe_look (xc 243) 77 = some (.ldc2_w 500, 3, 0, 9223372036854775805, 1275) := by decide +kernel
theorem omy_80 : xe_look (xc 243) 80 = some (.goto 17, 3, 0, 0, 0) := by decide +kernel
theorem omy_83 : xe_look (xc 243) 83 = some (.aload_n 0, 1, 0, 0, 0) := by decide +kernel
theorem omy_84 : xe_look (xc 243) 84 = some (.aload_n 0, 1, 0, 0, 0) := by decide +kernel
theorem omy_85 : xe_look (xc 243) 85 = some (.iload_n 2, 1, 0, 0, 0) := by decide +kernel
theorem omy_86 : xe_look (xc 243) 86 = some (.invokevirtual 494, 3, 0, 255, 1236) := by decide +kernel
theorem omy_89 : xe_look (xc 243) 89 = some (.aload_n 0, 1, 0, 0, 0) := by decide +kernel
theorem omy_90 : xe_look (xc 243) 90 = some (.iload_n 3, 1, 0, 0, 0) := by decide +kernel
theorem omy_91 : xe_look (xc 243) 91 = some (.invokevirtual 494, 3, 0, 255, 1236) := by decide +kernel
theorem omy_94 : xe_look (xc 243) 94 = some (.invokevirtual 502, 3, 0, 215, 1276) := by decide +kernel
theorem omy_97 : xe_look (xc 243) 97 = some (.lreturn, 1, 0, 0, 0) := by decide +kernel
theorem omy_98 : xe_look (xc 243) 98 = some (.aload_n 0, 1, 0, 0, 0) := by decide +kernel
theorem omy_99 : xe_look (xc 243) 99 = some (.iconst (-1), 1, 0, 0, 0) := by decide +kernel
theorem omy_100 : xe_look (xc 243) 100 = some (.iconst (-1), 1, 0, 0, 0) := by decide +kernel
theorem omy_101 : xe_look (xc 243) 101 = some (.invokevirtual 502, 3, 0, 215, 1276) := by decide +kernel
theorem omy_104 : xe_look (xc 243) 104 = some (.lstore 5, 2, 0, 0, 0) := by decide +kernel
theorem omy_106 : xe_look (xc 243) 106 = some (.lconst 0, 1, 0, 0, 0) := by decide +kernel
theorem omy_107 : xe_look (xc 243) 107 = some (.lstore 7, 2, 0, 0, 0) := by decide +kernel
theorem omy_109 : xe_look (xc 243) 109 = some (.iconst (-1), 1, 0, 0, 0) := by decide +kernel
theorem omy_110 : xe_look (xc 243) 110 = some (.istore 9, 2, 0, 0, 0) := by decide +kernel
theorem omy_112 : xe_look (xc 243) 112 = some (.iconst (-1), 1, 0, 0, 0) := by decide +kernel
theorem omy_113 : xe_look (xc 243) 113 = some (.istore 10, 2, 0, 0, 0) := by decide +kernel
theorem omy_115 : xe_look (xc 243) 115 = some (.iconst 0, 1, 0, 0, 0) := by decide +kernel
theorem omy_116 : xe_look (xc 243) 116 = some (.istore 11, 2, 0, 0, 0) := by decide +kernel
theorem omy_118 : xe_look (xc 243) 118 = some (.iload 11, 2, 0, 0, 0) := by decide +kernel
theorem omy_120 : xe_look (xc 243) 120 = some (.iload_n 1, 1, 0, 0, 0) := by decide +kernel
theorem omy_121 : xe_look (xc 243) 121 = some (.if_icmp .ge 83, 3, 0, 0, 0) := by decide +kernel
theorem omy_124 : xe_look (xc 243) 124 = some (.iload 11, 2, 0, 0, 0) := by decide +kernel
theorem omy_126 : xe_look (xc 243) 126 = some (.iconst 1, 1, 0, 0, 0) := by decide +kernel
theorem omy_127 : xe_look (xc 243) 127 = some (.iadd, 1, 0, 0, 0) := by decide +kernel
theorem omy_128 : xe_look (xc 243) 128 = some (.istore 12, 2, 0, 0, 0) := by decide +kernel
theorem omy_130 : xe_look (xc 243) 130 = some (.iload 12, 2, 0, 0, 0) := by decide +kernel
theorem omy_132 : xe_look (xc 243) 132 = some (.iload_n 1, 1, 0, 0, 0) := by decide +kernel
theorem omy_133 : xe_look (xc 243) 133 = some (.if_icmp .ge 65, 3, 0, 0, 0) := by decide +kernel
theorem omy_136 : xe_look (xc 243) 136 = some (.aload_n 0, 1, 0, 0, 0) := by decide +kernel
theorem omy_137 : xe_look (xc 243) 137 = some (.iload 11, 2, 0, 0, 0) := by decide +kernel
theorem omy_139 : xe_look (xc 243) 139 = some (.iload 12, 2, 0, 0, 0) := by decide +kernel
theorem omy_141 : xe_look (xc 243) 141 = some (.invokevirtual 502, 3, 0, 215, 1276) := by decide +kernel
theorem omy_144 : xe_look (xc 243) 144 = some (.lstore 13, 2, 0, 0, 0) := by decide +kernel
theorem omy_146 : xe_look (xc 243) 146 = some (.lload 13, 2, 0, 0, 0) := by decide +kernel
theorem omy_148 : xe_look (xc 243) 148 = some (.lload 5, 2, 0, 0, 0) := by decide +kernel
theorem omy_150 : xe_look (xc 243) 150 = some (.lload 13, 2, 0, 0, 0) := by decide +kernel
theorem omy_152 : xe_look (xc 243) 152 = some (.lsub, 1, 0, 0, 0) := by decide +kernel
theorem omy_153 : xe_look (xc 243) 153 = some (.lcmp, 1, 0, 0, 0) := by decide +kernel
theorem omy_154 : xe_look (xc 243) 154 = some (.ifCond .ge 8, 3, 0, 0, 0) := by decide +kernel
theorem omy_157 : xe_look (xc 243) 157 = some (.lload 13, 2, 0, 0, 0) := by decide +kernel
theorem omy_159 : xe_look (xc 243) 159 = some (.goto 8, 3, 0, 0, 0) := by decide +kernel
theorem omy_162 : xe_look (xc 243) 162 = some (.lload 5, 2, 0, 0, 0) := by decide +kernel
theorem omy_164 : xe_look (xc 243) 164 = some (.lload 13, 2, 0, 0, 0) := by decide +kernel
theorem omy_166 : xe_look (xc 243) 166 = some (.lsub, 1, 0, 0, 0) := by decide +kernel
theorem omy_167 : xe_look (xc 243) 167 = some (.lstore 15, 2, 0, 0, 0) := by decide +kernel
theorem omy_169 : xe_look (xc 243) 169 = some (.lload 15, 2, 0, 0, 0) := by decide +kernel
theorem omy_171 : xe_look (xc 243) 171 = some (.lload 7, 2, 0, 0, 0) := by decide +kernel
theorem omy_173 : xe_look (xc 243) 173 = some (.lcmp, 1, 0, 0, 0) := by decide +kernel
theorem omy_174 : xe_look (xc 243) 174 = some (.ifCond .gt 6, 3, 0, 0, 0) := by decide +kernel
theorem omy_177 : xe_look (xc 243) 177 = some (.goto 15, 3, 0, 0, 0) := by decide +kernel
theorem omy_180 : xe_look (xc 243) 180 = some (.lload 15, 2, 0, 0, 0) := by decide +kernel
theorem omy_182 : xe_look (xc 243) 182 = some (.lstore 7, 2, 0, 0, 0) := by decide +kernel
theorem omy_184 : xe_look (xc 243) 184 = some (.iload 11, 2, 0, 0, 0) := by decide +kernel
theorem omy_186 : xe_look (xc 243) 186 = some (.istore 9, 2, 0, 0, 0) := by decide +kernel
theorem omy_188 : xe_look (xc 243) 188 = some (.iload 12, 2, 0, 0, 0) := by decide +kernel
theorem omy_190 : xe_look (xc 243) 190 = some (.istore 10, 2, 0, 0, 0) := by decide +kernel
theorem omy_192 : xe_look (xc 243) 192 = some (.iinc 12 1, 3, 0, 0, 0) := by decide +kernel
theorem omy_195 : xe_look (xc 243) 195 = some (.goto (-65), 3, 0, 0, 0) := by decide +kernel
theorem omy_198 : xe_look (xc 243) 198 = some (.iinc 11 1, 3, 0, 0, 0) := by decide +kernel
theorem omy_201 : xe_look (xc 243) 201 = some (.goto (-83), 3, 0, 0, 0) := by decide +kernel
theorem omy_204 : xe_look (xc 243) 204 = some (.iload 9, 2, 0, 0, 0) := by decide +kernel
theorem omy_206 : xe_look (xc 243) 206 = some (.iconst (-1), 1, 0, 0, 0) := by decide +kernel
theorem omy_207 : xe_look (xc 243) 207 = some (.if_icmp .ne 9, 3, 0, 0, 0) := by decide +kernel
theorem omy_210 : xe_look (xc 243) 210 = some (.ldc2_w 460, 3, 0, 9223372036854775806, 1274) := by decide +kernel
theorem omy_213 : xe_look (xc 243) 213 = some (.goto 39, 3, 0, 0, 0) := by decide +kernel
theorem omy_216 : xe_look (xc 243) 216 = some (.iload 4, 2, 0, 0, 0) := by decide +kernel
theorem omy_218 : xe_look (xc 243) 218 = some (.iconst 1, 1, 0, 0, 0) := by decide +kernel
theorem omy_219 : xe_look (xc 243) 219 = some (.if_icmp .ne 14, 3, 0, 0, 0) := by decide +kernel
theorem omy_222 : xe_look (xc 243) 222 = some (.aload_n 0, 1, 0, 0, 0) := by decide +kernel
theorem omy_223 : xe_look (xc 243) 223 = some (.getfield 135, 3, 12, 68, 1206) := by decide +kernel
theorem omy_226 : xe_look (xc 243) 226 = some (.iload 9, 2, 0, 0, 0) := by decide +kernel
theorem omy_228 : xe_look (xc 243) 228 = some (.iaload, 1, 0, 0, 0) := by decide +kernel
theorem omy_229 : xe_look (xc 243) 229 = some (.i2l, 1, 0, 0, 0) := by decide +kernel
theorem omy_230 : xe_look (xc 243) 230 = some (.goto 22, 3, 0, 0, 0) := by decide +kernel
theorem omy_233 : xe_look (xc 243) 233 = some (.iload 4, 2, 0, 0, 0) := by decide +kernel
theorem omy_235 : xe_look (xc 243) 235 = some (.iconst 2, 1, 0, 0, 0) := by decide +kernel
theorem omy_236 : xe_look (xc 243) 236 = some (.if_icmp .ne 14, 3, 0, 0, 0) := by decide +kernel
theorem omy_239 : xe_look (xc 243) 239 = some (.aload_n 0, 1, 0, 0, 0) := by decide +kernel
theorem omy_240 : xe_look (xc 243) 240 = some (.getfield 135, 3, 12, 68, 1206) := by decide +kernel
theorem omy_243 : xe_look (xc 243) 243 = some (.iload 10, 2, 0, 0, 0) := by decide +kernel
theorem omy_245 : xe_look (xc 243) 245 = some (.iaload, 1, 0, 0, 0) := by decide +kernel
theorem omy_246 : xe_look (xc 243) 246 = some (.i2l, 1, 0, 0, 0) := by decide +kernel
theorem omy_247 : xe_look (xc 243) 247 = some (.goto 5, 3, 0, 0, 0) := by decide +kernel
theorem omy_250 : xe_look (xc 243) 250 = some (.lload 7, 2, 0, 0, 0) := by decide +kernel
theorem omy_252 : xe_look (xc 243) 252 = some (.lreturn, 1, 0, 0, 0) := by decide +kernel
theorem i64_o {a : Int} (h : -4000000000 ≤ a ∧ a ≤ 4000000000) : (Int64.ofInt a).toInt = a := Int64.toInt_ofInt_of_le (by omega) (by omega)
theorem lg_i {a b : Int} (ha : -4000000000 ≤ a ∧ a ≤ 4000000000) (hb : -4000000000 ≤ b ∧ b ≤ 4000000000) : (lg_cmp (Int64.ofInt a) (Int64.ofInt b) < 0 ↔ a < b) ∧ (0 < lg_cmp (Int64.ofInt a) (Int64.ofInt b) ↔ b < a) := by
  have h := lg_cmp_v (Int64.ofInt a) (Int64.ofInt b)
  rw [i64_o ha, i64_o hb] at h
  have e0 : (0 : Int32).toInt = 0 := by decide
  rw [Int32.lt_iff_toInt_lt, Int32.lt_iff_toInt_lt, e0]
  omega
theorem ol_b {all x : Int} (ha : 0 ≤ all ∧ all ≤ 479001600) (hx : 0 ≤ x ∧ x ≤ 479001600) : -479001600 ≤ ol all x ∧ ol all x ≤ 479001600 := by
  unfold ol
  by_cases q : x < all - x
  · rw [if_pos q]; omega
  · rw [if_neg q]; omega
theorem ogy_196_17 : eG (cn 196 + 17) = (0, 260, []) := by decide +kernel
theorem wt_jMo_196_17 : jMo.testBit (cn 196 + 17) = true := by decide +kernel
set_option maxHeartbeats 4000000 in
theorem omyI {d N : Nat} (hd : 4 ≤ d) (hN : N ≤ 12) {g0 : pH} {cl : Int} {sp ca cb : tC} (hcl : cF g0 196 22 = cl) (hca : fA g0 206 = ca) (hcb : fA g0 207 = cb) (hcl2 : 0 ≤ cl ∧ cl ≤ 24) {b : Nat → Bool} (hbN : cnt b 32 = N) (hsp : oNu b sp) {P : Option pv × pH → Prop} {what : Int} (hall : 0 ≤ (oF (oCk (oz_ b) ca cb cl.toNat) N 0) ∧ (oF (oCk (oz_ b) ca cb cl.toNat) N 0) ≤ 479001600) {a : Nat} (ha : a < N) {st0 : Int × Int × Int} (hC : ∀ (g : pH) (mb : tC) (st : Int × Int × Int), st = oMi (oR (oCk (oz_ b) ca cb cl.toNat) N) (oF (oCk (oz_ b) ca cb cl.toNat) N 0) a st0 (N - (a + 1)) → 0 ≤ st.1 ∧ st.1 ≤ 479001600 → mE g0 g N sp mb → ∀ {lv : List (Nat × pv)}, px_lg lv 0 = some (pvR 196) → px_lg lv 1 = some (oI ((N : Int))) → px_lg lv 4 = some (oI (what)) → px_lg lv 5 = some (.inr (.inl (Int64.ofInt (oF (oCk (oz_ b) ca cb cl.toNat) N 0)))) → px_lg lv 7 = some (.inr (.inl (Int64.ofInt st.1))) → px_lg lv 9 = some (oI (st.2.1)) → px_lg lv 10 = some (oI (st.2.2)) → px_lg lv 11 = some (oI ((a : Int))) → t_X d 243 198 lv [] g P) : ∀ (m c : Nat) (st : Int × Int × Int) (g : pH) {mb : tC}, N - c ≤ m → a < c → c ≤ N → st = oMi (oR (oCk (oz_ b) ca cb cl.toNat) N) (oF (oCk (oz_ b) ca cb cl.toNat) N 0) a st0 (c - (a + 1)) → 0 ≤ st.1 ∧ st.1 ≤ 479001600 → mE g0 g N sp mb → ∀ {lv : List (Nat × pv)}, px_lg lv 0 = some (pvR 196) → px_lg lv 1 = some (oI ((N : Int))) → px_lg lv 4 = some (oI (what)) → px_lg lv 5 = some (.inr (.inl (Int64.ofInt (oF (oCk (oz_ b) ca cb cl.toNat) N 0)))) → px_lg lv 7 = some (.inr (.inl (Int64.ofInt st.1))) → px_lg lv 9 = some (oI (st.2.1)) → px_lg lv 10 = some (oI (st.2.2)) → px_lg lv 11 = some (oI ((a : Int))) → px_lg lv 12 = some (oI ((c : Int))) → t_X d 243 130 lv [] g P := by
  intro m
  induction m with
  | zero =>
    intro c st g mb hm hab hb hst hst1 hS lv l0 l1 l4 l5 l7 l9 l10 l11 l12
    refine t_0 omy_130 rfl (ld_i l12) ?_
    refine t_0 omy_132 rfl (ld_i l1) ?_
    refine tb_ge omy_133 (by decide) ⟨by omega, by omega⟩ ⟨by omega, by omega⟩ (fun c1 => ?_) (fun c1 => absurd c1 (by omega))
    show t_X d 243 198 lv [] g P
    exact hC _ _ _ (by rw [hst, show c = N by omega]) hst1 hS l0 l1 l4 l5 l7 l9 l10 l11
  | succ m ih =>
    intro c st g mb hm hab hb hst hst1 hS lv l0 l1 l4 l5 l7 l9 l10 l11 l12
    by_cases hbN2 : c = N
    · refine t_0 omy_130 rfl (ld_i l12) ?_
      refine t_0 omy_132 rfl (ld_i l1) ?_
      refine tb_ge omy_133 (by decide) ⟨by omega, by omega⟩ ⟨by omega, by omega⟩ (fun c1 => ?_) (fun c1 => absurd c1 (by omega))
      show t_X d 243 198 lv [] g P
      exact hC _ _ _ (by rw [hst, show c = N by omega]) hst1 hS l0 l1 l4 l5 l7 l9 l10 l11
    refine t_0 omy_130 rfl (ld_i l12) ?_
    refine t_0 omy_132 rfl (ld_i l1) ?_
    refine tb_ge omy_133 (by decide) ⟨by omega, by omega⟩ ⟨by omega, by omega⟩ (fun c1 => absurd c1 (by omega)) (fun c1 => ?_)
    show t_X d 243 136 lv [] g P
    refine t_0 omy_136 rfl (ld_a l0) ?_
    refine t_0 omy_137 rfl (ld_i l11) ?_
    refine t_0 omy_139 rfl (ld_i l12) ?_
    refine t_3 omy_141 rfl (ar := ([pvR 196, oI ((a : Int)), oI ((c : Int))], [])) (pcal_w (as := [oI ((c : Int)), oI ((a : Int))]) rfl rfl rfl oeo_196) ⟨by omega, Nat.le_of_ble_eq_true rfl, Nat.le_of_ble_eq_true rfl, rfl⟩ ?_
    have hob := oF_b (A := oA (oCk (oz_ b) ca cb cl.toNat) a c) (S := 0) hN
    replace hob : 0 ≤ oR (oCk (oz_ b) ca cb cl.toNat) N a c ∧ oR (oCk (oz_ b) ca cb cl.toNat) N a c ≤ 479001600 := hob
    refine omlL0 (by omega) hN hcl hca hcb hcl2 hbN hsp (p := (a : Int)) (q := (c : Int)) (fun g8 mb8 hA8 hS8 {lv8} u0 u1 u2 => oml_x (by omega) hN hA8 (x := a) (y := c) (by omega) (by omega) (fun g2 mb2 hS2 => ?_) hS8 u0 u1 u2) hS rfl rfl rfl
    show t_X d 243 144 lv [.inr (.inl (Int64.ofInt (oR (oCk (oz_ b) ca cb cl.toNat) N a c)))] g2 P
    refine t_2 omy_144 rfl (w := (px_s2 lv 13 (.inr (.inl (Int64.ofInt (oR (oCk (oz_ b) ca cb cl.toNat) N a c)))), [])) rfl ?_
    replace l0 : px_lg (px_s2 lv 13 (.inr (.inl (Int64.ofInt (oR (oCk (oz_ b) ca cb cl.toNat) N a c))))) 0 = some (pvR 196) := s2_ne (by decide) (fun _ => rfl) l0
    replace l1 : px_lg (px_s2 lv 13 (.inr (.inl (Int64.ofInt (oR (oCk (oz_ b) ca cb cl.toNat) N a c))))) 1 = some (oI ((N : Int))) := s2_ne (by decide) (fun _ => rfl) l1
    replace l4 : px_lg (px_s2 lv 13 (.inr (.inl (Int64.ofInt (oR (oCk (oz_ b) ca cb cl.toNat) N a c))))) 4 = some (oI (what)) := s2_ne (by decide) (fun _ => rfl) l4
    replace l5 : px_lg (px_s2 lv 13 (.inr (.inl (Int64.ofInt (oR (oCk (oz_ b) ca cb cl.toNat) N a c))))) 5 = some (.inr (.inl (Int64.ofInt (oF (oCk (oz_ b) ca cb cl.toNat) N 0)))) := s2_ne (by decide) (fun z => absurd z (by decide)) l5
    replace l7 : px_lg (px_s2 lv 13 (.inr (.inl (Int64.ofInt (oR (oCk (oz_ b) ca cb cl.toNat) N a c))))) 7 = some (.inr (.inl (Int64.ofInt st.1))) := s2_ne (by decide) (fun z => absurd z (by decide)) l7
    replace l9 : px_lg (px_s2 lv 13 (.inr (.inl (Int64.ofInt (oR (oCk (oz_ b) ca cb cl.toNat) N a c))))) 9 = some (oI (st.2.1)) := s2_ne (by decide) (fun _ => rfl) l9
    replace l10 : px_lg (px_s2 lv 13 (.inr (.inl (Int64.ofInt (oR (oCk (oz_ b) ca cb cl.toNat) N a c))))) 10 = some (oI (st.2.2)) := s2_ne (by decide) (fun _ => rfl) l10
    replace l11 : px_lg (px_s2 lv 13 (.inr (.inl (Int64.ofInt (oR (oCk (oz_ b) ca cb cl.toNat) N a c))))) 11 = some (oI ((a : Int))) := s2_ne (by decide) (fun _ => rfl) l11
    replace l12 : px_lg (px_s2 lv 13 (.inr (.inl (Int64.ofInt (oR (oCk (oz_ b) ca cb cl.toNat) N a c))))) 12 = some (oI ((c : Int))) := s2_ne (by decide) (fun _ => rfl) l12
    have l13 : px_lg (px_s2 lv 13 (.inr (.inl (Int64.ofInt (oR (oCk (oz_ b) ca cb cl.toNat) N a c))))) 13 = some (.inr (.inl (Int64.ofInt (oR (oCk (oz_ b) ca cb cl.toNat) N a c)))) := s2_eq
    generalize px_s2 lv 13 (.inr (.inl (Int64.ofInt (oR (oCk (oz_ b) ca cb cl.toNat) N a c)))) = lv3 at l0 l1 l4 l5 l7 l9 l10 l11 l12 l13 ⊢
    show t_X d 243 146 lv3 [] g2 P
    refine t_0 omy_146 rfl (ld_l l13) ?_
    refine t_0 omy_148 rfl (ld_l l5) ?_
    refine t_0 omy_150 rfl (ld_l l13) ?_
    refine t_0 omy_152 rfl rfl ?_
    show t_X d 243 153 lv3 [.inr (.inl ((Int64.ofInt (oF (oCk (oz_ b) ca cb cl.toNat) N 0)) - (Int64.ofInt (oR (oCk (oz_ b) ca cb cl.toNat) N a c)))), .inr (.inl (Int64.ofInt (oR (oCk (oz_ b) ca cb cl.toNat) N a c)))] g2 P
    rw [show Int64.ofInt (oF (oCk (oz_ b) ca cb cl.toNat) N 0) - Int64.ofInt (oR (oCk (oz_ b) ca cb cl.toNat) N a c) = Int64.ofInt ((oF (oCk (oz_ b) ca cb cl.toNat) N 0) - oR (oCk (oz_ b) ca cb cl.toNat) N a c) from (Int64.ofInt_sub ..).symm]
    show t_X d 243 153 lv3 [.inr (.inl (Int64.ofInt ((oF (oCk (oz_ b) ca cb cl.toNat) N 0) - oR (oCk (oz_ b) ca cb cl.toNat) N a c))), .inr (.inl (Int64.ofInt (oR (oCk (oz_ b) ca cb cl.toNat) N a c)))] g2 P
    refine t_0 omy_153 rfl rfl ?_
    refine tx_ge omy_154 (by decide) (fun c4 => ?_) (fun c4 => ?_)
    · show t_X d 243 162 lv3 [] g2 P
      have cl1 : ¬ oR (oCk (oz_ b) ca cb cl.toNat) N a c < (oF (oCk (oz_ b) ca cb cl.toNat) N 0) - oR (oCk (oz_ b) ca cb cl.toNat) N a c := fun z => c4 ((lg_i (by omega) (by omega)).1.mpr z)
      refine t_0 omy_162 rfl (ld_l l5) ?_
      refine t_0 omy_164 rfl (ld_l l13) ?_
      refine t_0 omy_166 rfl rfl ?_
      show t_X d 243 167 lv3 [.inr (.inl ((Int64.ofInt (oF (oCk (oz_ b) ca cb cl.toNat) N 0)) - (Int64.ofInt (oR (oCk (oz_ b) ca cb cl.toNat) N a c))))] g2 P
      rw [show Int64.ofInt (oF (oCk (oz_ b) ca cb cl.toNat) N 0) - Int64.ofInt (oR (oCk (oz_ b) ca cb cl.toNat) N a c) = Int64.ofInt ((oF (oCk (oz_ b) ca cb cl.toNat) N 0) - oR (oCk (oz_ b) ca cb cl.toNat) N a c) from (Int64.ofInt_sub ..).symm]
      show t_X d 243 167 lv3 [.inr (.inl (Int64.ofInt ((oF (oCk (oz_ b) ca cb cl.toNat) N 0) - oR (oCk (oz_ b) ca cb cl.toNat) N a c)))] g2 P
      have el : ol (oF (oCk (oz_ b) ca cb cl.toNat) N 0) (oR (oCk (oz_ b) ca cb cl.toNat) N a c) = (oF (oCk (oz_ b) ca cb cl.toNat) N 0) - oR (oCk (oz_ b) ca cb cl.toNat) N a c := by unfold ol; rw [if_neg cl1]
      have hol := ol_b hall hob
      rw [← el]
      show t_X d 243 167 lv3 [.inr (.inl (Int64.ofInt (ol (oF (oCk (oz_ b) ca cb cl.toNat) N 0) (oR (oCk (oz_ b) ca cb cl.toNat) N a c))))] g2 P
      refine t_2 omy_167 rfl (w := (px_s2 lv3 15 (.inr (.inl (Int64.ofInt (ol (oF (oCk (oz_ b) ca cb cl.toNat) N 0) (oR (oCk (oz_ b) ca cb cl.toNat) N a c))))), [])) rfl ?_
      replace l0 : px_lg (px_s2 lv3 15 (.inr (.inl (Int64.ofInt (ol (oF (oCk (oz_ b) ca cb cl.toNat) N 0) (oR (oCk (oz_ b) ca cb cl.toNat) N a c)))))) 0 = some (pvR 196) := s2_ne (by decide) (fun _ => rfl) l0
      replace l1 : px_lg (px_s2 lv3 15 (.inr (.inl (Int64.ofInt (ol (oF (oCk (oz_ b) ca cb cl.toNat) N 0) (oR (oCk (oz_ b) ca cb cl.toNat) N a c)))))) 1 = some (oI ((N : Int))) := s2_ne (by decide) (fun _ => rfl) l1
      replace l4 : px_lg (px_s2 lv3 15 (.inr (.inl (Int64.ofInt (ol (oF (oCk (oz_ b) ca cb cl.toNat) N 0) (oR (oCk (oz_ b) ca cb cl.toNat) N a c)))))) 4 = some (oI (what)) := s2_ne (by decide) (fun _ => rfl) l4
      replace l5 : px_lg (px_s2 lv3 15 (.inr (.inl (Int64.ofInt (ol (oF (oCk (oz_ b) ca cb cl.toNat) N 0) (oR (oCk (oz_ b) ca cb cl.toNat) N a c)))))) 5 = some (.inr (.inl (Int64.ofInt (oF (oCk (oz_ b) ca cb cl.toNat) N 0)))) := s2_ne (by decide) (fun z => absurd z (by decide)) l5
      replace l7 : px_lg (px_s2 lv3 15 (.inr (.inl (Int64.ofInt (ol (oF (oCk (oz_ b) ca cb cl.toNat) N 0) (oR (oCk (oz_ b) ca cb cl.toNat) N a c)))))) 7 = some (.inr (.inl (Int64.ofInt st.1))) := s2_ne (by decide) (fun z => absurd z (by decide)) l7
      replace l9 : px_lg (px_s2 lv3 15 (.inr (.inl (Int64.ofInt (ol (oF (oCk (oz_ b) ca cb cl.toNat) N 0) (oR (oCk (oz_ b) ca cb cl.toNat) N a c)))))) 9 = some (oI (st.2.1)) := s2_ne (by decide) (fun _ => rfl) l9
      replace l10 : px_lg (px_s2 lv3 15 (.inr (.inl (Int64.ofInt (ol (oF (oCk (oz_ b) ca cb cl.toNat) N 0) (oR (oCk (oz_ b) ca cb cl.toNat) N a c)))))) 10 = some (oI (st.2.2)) := s2_ne (by decide) (fun _ => rfl) l10
      replace l11 : px_lg (px_s2 lv3 15 (.inr (.inl (Int64.ofInt (ol (oF (oCk (oz_ b) ca cb cl.toNat) N 0) (oR (oCk (oz_ b) ca cb cl.toNat) N a c)))))) 11 = some (oI ((a : Int))) := s2_ne (by decide) (fun _ => rfl) l11
      replace l12 : px_lg (px_s2 lv3 15 (.inr (.inl (Int64.ofInt (ol (oF (oCk (oz_ b) ca cb cl.toNat) N 0) (oR (oCk (oz_ b) ca cb cl.toNat) N a c)))))) 12 = some (oI ((c : Int))) := s2_ne (by decide) (fun _ => rfl) l12
      replace l13 : px_lg (px_s2 lv3 15 (.inr (.inl (Int64.ofInt (ol (oF (oCk (oz_ b) ca cb cl.toNat) N 0) (oR (oCk (oz_ b) ca cb cl.toNat) N a c)))))) 13 = some (.inr (.inl (Int64.ofInt (oR (oCk (oz_ b) ca cb cl.toNat) N a c)))) := s2_ne (by decide) (fun z => absurd z (by decide)) l13
      have l15 : px_lg (px_s2 lv3 15 (.inr (.inl (Int64.ofInt (ol (oF (oCk (oz_ b) ca cb cl.toNat) N 0) (oR (oCk (oz_ b) ca cb cl.toNat) N a c)))))) 15 = some (.inr (.inl (Int64.ofInt (ol (oF (oCk (oz_ b) ca cb cl.toNat) N 0) (oR (oCk (oz_ b) ca cb cl.toNat) N a c))))) := s2_eq
      generalize px_s2 lv3 15 (.inr (.inl (Int64.ofInt (ol (oF (oCk (oz_ b) ca cb cl.toNat) N 0) (oR (oCk (oz_ b) ca cb cl.toNat) N a c))))) = lv5 at l0 l1 l4 l5 l7 l9 l10 l11 l12 l13 l15 ⊢
      show t_X d 243 169 lv5 [] g2 P
      refine t_0 omy_169 rfl (ld_l l15) ?_
      refine t_0 omy_171 rfl (ld_l l7) ?_
      refine t_0 omy_173 rfl rfl ?_
      refine tx_gt omy_174 (by decide) (fun c6 => ?_) (fun c6 => ?_)
      · show t_X d 243 180 lv5 [] g2 P
        refine t_0 omy_180 rfl (ld_l l15) ?_
        refine t_2 omy_182 rfl (w := (px_s2 lv5 7 (.inr (.inl (Int64.ofInt (ol (oF (oCk (oz_ b) ca cb cl.toNat) N 0) (oR (oCk (oz_ b) ca cb cl.toNat) N a c))))), [])) rfl ?_
        replace l0 : px_lg (px_s2 lv5 7 (.inr (.inl (Int64.ofInt (ol (oF (oCk (oz_ b) ca cb cl.toNat) N 0) (oR (oCk (oz_ b) ca cb cl.toNat) N a c)))))) 0 = some (pvR 196) := s2_ne (by decide) (fun _ => rfl) l0
        replace l1 : px_lg (px_s2 lv5 7 (.inr (.inl (Int64.ofInt (ol (oF (oCk (oz_ b) ca cb cl.toNat) N 0) (oR (oCk (oz_ b) ca cb cl.toNat) N a c)))))) 1 = some (oI ((N : Int))) := s2_ne (by decide) (fun _ => rfl) l1
        replace l4 : px_lg (px_s2 lv5 7 (.inr (.inl (Int64.ofInt (ol (oF (oCk (oz_ b) ca cb cl.toNat) N 0) (oR (oCk (oz_ b) ca cb cl.toNat) N a c)))))) 4 = some (oI (what)) := s2_ne (by decide) (fun _ => rfl) l4
        replace l5 : px_lg (px_s2 lv5 7 (.inr (.inl (Int64.ofInt (ol (oF (oCk (oz_ b) ca cb cl.toNat) N 0) (oR (oCk (oz_ b) ca cb cl.toNat) N a c)))))) 5 = some (.inr (.inl (Int64.ofInt (oF (oCk (oz_ b) ca cb cl.toNat) N 0)))) := s2_ne (by decide) (fun z => absurd z (by decide)) l5
        replace l9 : px_lg (px_s2 lv5 7 (.inr (.inl (Int64.ofInt (ol (oF (oCk (oz_ b) ca cb cl.toNat) N 0) (oR (oCk (oz_ b) ca cb cl.toNat) N a c)))))) 9 = some (oI (st.2.1)) := s2_ne (by decide) (fun _ => rfl) l9
        replace l10 : px_lg (px_s2 lv5 7 (.inr (.inl (Int64.ofInt (ol (oF (oCk (oz_ b) ca cb cl.toNat) N 0) (oR (oCk (oz_ b) ca cb cl.toNat) N a c)))))) 10 = some (oI (st.2.2)) := s2_ne (by decide) (fun _ => rfl) l10
        replace l11 : px_lg (px_s2 lv5 7 (.inr (.inl (Int64.ofInt (ol (oF (oCk (oz_ b) ca cb cl.toNat) N 0) (oR (oCk (oz_ b) ca cb cl.toNat) N a c)))))) 11 = some (oI ((a : Int))) := s2_ne (by decide) (fun _ => rfl) l11
        replace l12 : px_lg (px_s2 lv5 7 (.inr (.inl (Int64.ofInt (ol (oF (oCk (oz_ b) ca cb cl.toNat) N 0) (oR (oCk (oz_ b) ca cb cl.toNat) N a c)))))) 12 = some (oI ((c : Int))) := s2_ne (by decide) (fun _ => rfl) l12
        replace l13 : px_lg (px_s2 lv5 7 (.inr (.inl (Int64.ofInt (ol (oF (oCk (oz_ b) ca cb cl.toNat) N 0) (oR (oCk (oz_ b) ca cb cl.toNat) N a c)))))) 13 = some (.inr (.inl (Int64.ofInt (oR (oCk (oz_ b) ca cb cl.toNat) N a c)))) := s2_ne (by decide) (fun z => absurd z (by decide)) l13
        replace l15 : px_lg (px_s2 lv5 7 (.inr (.inl (Int64.ofInt (ol (oF (oCk (oz_ b) ca cb cl.toNat) N 0) (oR (oCk (oz_ b) ca cb cl.toNat) N a c)))))) 15 = some (.inr (.inl (Int64.ofInt (ol (oF (oCk (oz_ b) ca cb cl.toNat) N 0) (oR (oCk (oz_ b) ca cb cl.toNat) N a c))))) := s2_ne (by decide) (fun z => absurd z (by decide)) l15
        have l7 : px_lg (px_s2 lv5 7 (.inr (.inl (Int64.ofInt (ol (oF (oCk (oz_ b) ca cb cl.toNat) N 0) (oR (oCk (oz_ b) ca cb cl.toNat) N a c)))))) 7 = some (.inr (.inl (Int64.ofInt (ol (oF (oCk (oz_ b) ca cb cl.toNat) N 0) (oR (oCk (oz_ b) ca cb cl.toNat) N a c))))) := s2_eq
        generalize px_s2 lv5 7 (.inr (.inl (Int64.ofInt (ol (oF (oCk (oz_ b) ca cb cl.toNat) N 0) (oR (oCk (oz_ b) ca cb cl.toNat) N a c))))) = lv7 at l0 l1 l4 l5 l9 l10 l11 l12 l13 l15 l7 ⊢
        show t_X d 243 184 lv7 [] g2 P
        refine t_0 omy_184 rfl (ld_i l11) ?_
        refine t_2 omy_186 rfl (w := (px_s1 lv7 9 (oI ((a : Int))), [])) rfl ?_
        replace l0 : px_lg (px_s1 lv7 9 (oI ((a : Int)))) 0 = some (pvR 196) := s1_ne (by decide) (fun _ => rfl) l0
        replace l1 : px_lg (px_s1 lv7 9 (oI ((a : Int)))) 1 = some (oI ((N : Int))) := s1_ne (by decide) (fun _ => rfl) l1
        replace l4 : px_lg (px_s1 lv7 9 (oI ((a : Int)))) 4 = some (oI (what)) := s1_ne (by decide) (fun _ => rfl) l4
        replace l5 : px_lg (px_s1 lv7 9 (oI ((a : Int)))) 5 = some (.inr (.inl (Int64.ofInt (oF (oCk (oz_ b) ca cb cl.toNat) N 0)))) := s1_ne (by decide) (fun z => absurd z (by decide)) l5
        replace l10 : px_lg (px_s1 lv7 9 (oI ((a : Int)))) 10 = some (oI (st.2.2)) := s1_ne (by decide) (fun _ => rfl) l10
        replace l11 : px_lg (px_s1 lv7 9 (oI ((a : Int)))) 11 = some (oI ((a : Int))) := s1_ne (by decide) (fun _ => rfl) l11
        replace l12 : px_lg (px_s1 lv7 9 (oI ((a : Int)))) 12 = some (oI ((c : Int))) := s1_ne (by decide) (fun _ => rfl) l12
        replace l13 : px_lg (px_s1 lv7 9 (oI ((a : Int)))) 13 = some (.inr (.inl (Int64.ofInt (oR (oCk (oz_ b) ca cb cl.toNat) N a c)))) := s1_ne (by decide) (fun z => absurd z (by decide)) l13
        replace l15 : px_lg (px_s1 lv7 9 (oI ((a : Int)))) 15 = some (.inr (.inl (Int64.ofInt (ol (oF (oCk (oz_ b) ca cb cl.toNat) N 0) (oR (oCk (oz_ b) ca cb cl.toNat) N a c))))) := s1_ne (by decide) (fun z => absurd z (by decide)) l15
        replace l7 : px_lg (px_s1 lv7 9 (oI ((a : Int)))) 7 = some (.inr (.inl (Int64.ofInt (ol (oF (oCk (oz_ b) ca cb cl.toNat) N 0) (oR (oCk (oz_ b) ca cb cl.toNat) N a c))))) := s1_ne (by decide) (fun z => absurd z (by decide)) l7
        have l9 : px_lg (px_s1 lv7 9 (oI ((a : Int)))) 9 = some (oI ((a : Int))) := s1_eq
        generalize px_s1 lv7 9 (oI ((a : Int))) = lv8 at l0 l1 l4 l5 l10 l11 l12 l13 l15 l7 l9 ⊢
        show t_X d 243 188 lv8 [] g2 P
        refine t_0 omy_188 rfl (ld_i l12) ?_
        refine t_2 omy_190 rfl (w := (px_s1 lv8 10 (oI ((c : Int))), [])) rfl ?_
        replace l0 : px_lg (px_s1 lv8 10 (oI ((c : Int)))) 0 = some (pvR 196) := s1_ne (by decide) (fun _ => rfl) l0
        replace l1 : px_lg (px_s1 lv8 10 (oI ((c : Int)))) 1 = some (oI ((N : Int))) := s1_ne (by decide) (fun _ => rfl) l1
        replace l4 : px_lg (px_s1 lv8 10 (oI ((c : Int)))) 4 = some (oI (what)) := s1_ne (by decide) (fun _ => rfl) l4
        replace l5 : px_lg (px_s1 lv8 10 (oI ((c : Int)))) 5 = some (.inr (.inl (Int64.ofInt (oF (oCk (oz_ b) ca cb cl.toNat) N 0)))) := s1_ne (by decide) (fun z => absurd z (by decide)) l5
        replace l11 : px_lg (px_s1 lv8 10 (oI ((c : Int)))) 11 = some (oI ((a : Int))) := s1_ne (by decide) (fun _ => rfl) l11
        replace l12 : px_lg (px_s1 lv8 10 (oI ((c : Int)))) 12 = some (oI ((c : Int))) := s1_ne (by decide) (fun _ => rfl) l12
        replace l13 : px_lg (px_s1 lv8 10 (oI ((c : Int)))) 13 = some (.inr (.inl (Int64.ofInt (oR (oCk (oz_ b) ca cb cl.toNat) N a c)))) := s1_ne (by decide) (fun z => absurd z (by decide)) l13
        replace l15 : px_lg (px_s1 lv8 10 (oI ((c : Int)))) 15 = some (.inr (.inl (Int64.ofInt (ol (oF (oCk (oz_ b) ca cb cl.toNat) N 0) (oR (oCk (oz_ b) ca cb cl.toNat) N a c))))) := s1_ne (by decide) (fun z => absurd z (by decide)) l15
        replace l7 : px_lg (px_s1 lv8 10 (oI ((c : Int)))) 7 = some (.inr (.inl (Int64.ofInt (ol (oF (oCk (oz_ b) ca cb cl.toNat) N 0) (oR (oCk (oz_ b) ca cb cl.toNat) N a c))))) := s1_ne (by decide) (fun z => absurd z (by decide)) l7
        replace l9 : px_lg (px_s1 lv8 10 (oI ((c : Int)))) 9 = some (oI ((a : Int))) := s1_ne (by decide) (fun _ => rfl) l9
        have l10 : px_lg (px_s1 lv8 10 (oI ((c : Int)))) 10 = some (oI ((c : Int))) := s1_eq
        generalize px_s1 lv8 10 (oI ((c : Int))) = lv9 at l0 l1 l4 l5 l11 l12 l13 l15 l7 l9 l10 ⊢
        show t_X d 243 192 lv9 [] g2 P
        refine t_2 omy_192 rfl (w := (px_s1 lv9 12 (oI ((c : Int) + 1)), [])) (pq_inc l12 (by decide)) ?_
        replace l0 : px_lg (px_s1 lv9 12 (oI ((c : Int) + 1))) 0 = some (pvR 196) := s1_ne (by decide) (fun _ => rfl) l0
        replace l1 : px_lg (px_s1 lv9 12 (oI ((c : Int) + 1))) 1 = some (oI ((N : Int))) := s1_ne (by decide) (fun _ => rfl) l1
        replace l4 : px_lg (px_s1 lv9 12 (oI ((c : Int) + 1))) 4 = some (oI (what)) := s1_ne (by decide) (fun _ => rfl) l4
        replace l5 : px_lg (px_s1 lv9 12 (oI ((c : Int) + 1))) 5 = some (.inr (.inl (Int64.ofInt (oF (oCk (oz_ b) ca cb cl.toNat) N 0)))) := s1_ne (by decide) (fun z => absurd z (by decide)) l5
        replace l11 : px_lg (px_s1 lv9 12 (oI ((c : Int) + 1))) 11 = some (oI ((a : Int))) := s1_ne (by decide) (fun _ => rfl) l11
        replace l13 : px_lg (px_s1 lv9 12 (oI ((c : Int) + 1))) 13 = some (.inr (.inl (Int64.ofInt (oR (oCk (oz_ b) ca cb cl.toNat) N a c)))) := s1_ne (by decide) (fun z => absurd z (by decide)) l13
        replace l15 : px_lg (px_s1 lv9 12 (oI ((c : Int) + 1))) 15 = some (.inr (.inl (Int64.ofInt (ol (oF (oCk (oz_ b) ca cb cl.toNat) N 0) (oR (oCk (oz_ b) ca cb cl.toNat) N a c))))) := s1_ne (by decide) (fun z => absurd z (by decide)) l15
        replace l7 : px_lg (px_s1 lv9 12 (oI ((c : Int) + 1))) 7 = some (.inr (.inl (Int64.ofInt (ol (oF (oCk (oz_ b) ca cb cl.toNat) N 0) (oR (oCk (oz_ b) ca cb cl.toNat) N a c))))) := s1_ne (by decide) (fun z => absurd z (by decide)) l7
        replace l9 : px_lg (px_s1 lv9 12 (oI ((c : Int) + 1))) 9 = some (oI ((a : Int))) := s1_ne (by decide) (fun _ => rfl) l9
        replace l10 : px_lg (px_s1 lv9 12 (oI ((c : Int) + 1))) 10 = some (oI ((c : Int))) := s1_ne (by decide) (fun _ => rfl) l10
        have l12 : px_lg (px_s1 lv9 12 (oI ((c : Int) + 1))) 12 = some (oI ((c : Int) + 1)) := s1_eq
        generalize px_s1 lv9 12 (oI ((c : Int) + 1)) = lv10 at l0 l1 l4 l5 l11 l13 l15 l7 l9 l10 l12 ⊢
        show t_X d 243 195 lv10 [] g2 P
        refine t_1 omy_195 rfl (pb_goto (pc := 195) (by decide)) ?_
        show t_X d 243 130 lv10 [] g2 P
        have eb : c + 1 - (a + 1) = (c - (a + 1)) + 1 := by omega
        have eo : oMi (oR (oCk (oz_ b) ca cb cl.toNat) N) (oF (oCk (oz_ b) ca cb cl.toNat) N 0) a st0 (c + 1 - (a + 1)) = oM (oR (oCk (oz_ b) ca cb cl.toNat) N) (oF (oCk (oz_ b) ca cb cl.toNat) N 0) st a c := by rw [eb, hst]; show oM _ _ _ a (a + 1 + (c - (a + 1))) = _; rw [show a + 1 + (c - (a + 1)) = c by omega]
        have cw := (lg_i (by omega) (by omega)).2.mp c6
        exact ih (c + 1) (ol (oF (oCk (oz_ b) ca cb cl.toNat) N 0) (oR (oCk (oz_ b) ca cb cl.toNat) N a c), (a : Int), (c : Int)) _ (by omega) (by omega) (by omega) (by rw [eo]; exact (if_pos cw).symm) ⟨by show 0 ≤ ol (oF (oCk (oz_ b) ca cb cl.toNat) N 0) (oR (oCk (oz_ b) ca cb cl.toNat) N a c); omega, by show ol (oF (oCk (oz_ b) ca cb cl.toNat) N 0) (oR (oCk (oz_ b) ca cb cl.toNat) N a c) ≤ 479001600; omega⟩ hS2 l0 l1 l4 l5 l7 l9 l10 l11 l12
      · show t_X d 243 177 lv5 [] g2 P
        refine t_1 omy_177 rfl (pb_goto (pc := 177) (by decide)) ?_
        show t_X d 243 192 lv5 [] g2 P
        refine t_2 omy_192 rfl (w := (px_s1 lv5 12 (oI ((c : Int) + 1)), [])) (pq_inc l12 (by decide)) ?_
        replace l0 : px_lg (px_s1 lv5 12 (oI ((c : Int) + 1))) 0 = some (pvR 196) := s1_ne (by decide) (fun _ => rfl) l0
        replace l1 : px_lg (px_s1 lv5 12 (oI ((c : Int) + 1))) 1 = some (oI ((N : Int))) := s1_ne (by decide) (fun _ => rfl) l1
        replace l4 : px_lg (px_s1 lv5 12 (oI ((c : Int) + 1))) 4 = some (oI (what)) := s1_ne (by decide) (fun _ => rfl) l4
        replace l5 : px_lg (px_s1 lv5 12 (oI ((c : Int) + 1))) 5 = some (.inr (.inl (Int64.ofInt (oF (oCk (oz_ b) ca cb cl.toNat) N 0)))) := s1_ne (by decide) (fun z => absurd z (by decide)) l5
        replace l7 : px_lg (px_s1 lv5 12 (oI ((c : Int) + 1))) 7 = some (.inr (.inl (Int64.ofInt st.1))) := s1_ne (by decide) (fun z => absurd z (by decide)) l7
        replace l9 : px_lg (px_s1 lv5 12 (oI ((c : Int) + 1))) 9 = some (oI (st.2.1)) := s1_ne (by decide) (fun _ => rfl) l9
        replace l10 : px_lg (px_s1 lv5 12 (oI ((c : Int) + 1))) 10 = some (oI (st.2.2)) := s1_ne (by decide) (fun _ => rfl) l10
        replace l11 : px_lg (px_s1 lv5 12 (oI ((c : Int) + 1))) 11 = some (oI ((a : Int))) := s1_ne (by decide) (fun _ => rfl) l11
        replace l13 : px_lg (px_s1 lv5 12 (oI ((c : Int) + 1))) 13 = some (.inr (.inl (Int64.ofInt (oR (oCk (oz_ b) ca cb cl.toNat) N a c)))) := s1_ne (by decide) (fun z => absurd z (by decide)) l13
        replace l15 : px_lg (px_s1 lv5 12 (oI ((c : Int) + 1))) 15 = some (.inr (.inl (Int64.ofInt (ol (oF (oCk (oz_ b) ca cb cl.toNat) N 0) (oR (oCk (oz_ b) ca cb cl.toNat) N a c))))) := s1_ne (by decide) (fun z => absurd z (by decide)) l15
        have l12 : px_lg (px_s1 lv5 12 (oI ((c : Int) + 1))) 12 = some (oI ((c : Int) + 1)) := s1_eq
        generalize px_s1 lv5 12 (oI ((c : Int) + 1)) = lv11 at l0 l1 l4 l5 l7 l9 l10 l11 l13 l15 l12 ⊢
        show t_X d 243 195 lv11 [] g2 P
        refine t_1 omy_195 rfl (pb_goto (pc := 195) (by decide)) ?_
        show t_X d 243 130 lv11 [] g2 P
        have eb : c + 1 - (a + 1) = (c - (a + 1)) + 1 := by omega
        have eo : oMi (oR (oCk (oz_ b) ca cb cl.toNat) N) (oF (oCk (oz_ b) ca cb cl.toNat) N 0) a st0 (c + 1 - (a + 1)) = oM (oR (oCk (oz_ b) ca cb cl.toNat) N) (oF (oCk (oz_ b) ca cb cl.toNat) N 0) st a c := by rw [eb, hst]; show oM _ _ _ a (a + 1 + (c - (a + 1))) = _; rw [show a + 1 + (c - (a + 1)) = c by omega]
        have cw : ¬ st.1 < ol (oF (oCk (oz_ b) ca cb cl.toNat) N 0) (oR (oCk (oz_ b) ca cb cl.toNat) N a c) := fun z => c6 ((lg_i (by omega) (by omega)).2.mpr z)
        exact ih (c + 1) st _ (by omega) (by omega) (by omega) (by rw [eo]; exact (if_neg cw).symm) hst1 hS2 l0 l1 l4 l5 l7 l9 l10 l11 l12
    · show t_X d 243 157 lv3 [] g2 P
      have cl1 := (lg_i (by omega) (by omega)).1.mp c4
      refine t_0 omy_157 rfl (ld_l l13) ?_
      refine t_1 omy_159 rfl (pb_goto (pc := 159) (by decide)) ?_
      show t_X d 243 167 lv3 [.inr (.inl (Int64.ofInt (oR (oCk (oz_ b) ca cb cl.toNat) N a c)))] g2 P
      have el : ol (oF (oCk (oz_ b) ca cb cl.toNat) N 0) (oR (oCk (oz_ b) ca cb cl.toNat) N a c) = oR (oCk (oz_ b) ca cb cl.toNat) N a c := by unfold ol; rw [if_pos cl1]
      have hol := ol_b hall hob
      rw [← el]
      show t_X d 243 167 lv3 [.inr (.inl (Int64.ofInt (ol (oF (oCk (oz_ b) ca cb cl.toNat) N 0) (oR (oCk (oz_ b) ca cb cl.toNat) N a c))))] g2 P
      refine t_2 omy_167 rfl (w := (px_s2 lv3 15 (.inr (.inl (Int64.ofInt (ol (oF (oCk (oz_ b) ca cb cl.toNat) N 0) (oR (oCk (oz_ b) ca cb cl.toNat) N a c))))), [])) rfl ?_
      replace l0 : px_lg (px_s2 lv3 15 (.inr (.inl (Int64.ofInt (ol (oF (oCk (oz_ b) ca cb cl.toNat) N 0) (oR (oCk (oz_ b) ca cb cl.toNat) N a c)))))) 0 = some (pvR 196) := s2_ne (by decide) (fun _ => rfl) l0
      replace l1 : px_lg (px_s2 lv3 15 (.inr (.inl (Int64.ofInt (ol (oF (oCk (oz_ b) ca cb cl.toNat) N 0) (oR (oCk (oz_ b) ca cb cl.toNat) N a c)))))) 1 = some (oI ((N : Int))) := s2_ne (by decide) (fun _ => rfl) l1
      replace l4 : px_lg (px_s2 lv3 15 (.inr (.inl (Int64.ofInt (ol (oF (oCk (oz_ b) ca cb cl.toNat) N 0) (oR (oCk (oz_ b) ca cb cl.toNat) N a c)))))) 4 = some (oI (what)) := s2_ne (by decide) (fun _ => rfl) l4
      replace l5 : px_lg (px_s2 lv3 15 (.inr (.inl (Int64.ofInt (ol (oF (oCk (oz_ b) ca cb cl.toNat) N 0) (oR (oCk (oz_ b) ca cb cl.toNat) N a c)))))) 5 = some (.inr (.inl (Int64.ofInt (oF (oCk (oz_ b) ca cb cl.toNat) N 0)))) := s2_ne (by decide) (fun z => absurd z (by decide)) l5
      replace l7 : px_lg (px_s2 lv3 15 (.inr (.inl (Int64.ofInt (ol (oF (oCk (oz_ b) ca cb cl.toNat) N 0) (oR (oCk (oz_ b) ca cb cl.toNat) N a c)))))) 7 = some (.inr (.inl (Int64.ofInt st.1))) := s2_ne (by decide) (fun z => absurd z (by decide)) l7
      replace l9 : px_lg (px_s2 lv3 15 (.inr (.inl (Int64.ofInt (ol (oF (oCk (oz_ b) ca cb cl.toNat) N 0) (oR (oCk (oz_ b) ca cb cl.toNat) N a c)))))) 9 = some (oI (st.2.1)) := s2_ne (by decide) (fun _ => rfl) l9
      replace l10 : px_lg (px_s2 lv3 15 (.inr (.inl (Int64.ofInt (ol (oF (oCk (oz_ b) ca cb cl.toNat) N 0) (oR (oCk (oz_ b) ca cb cl.toNat) N a c)))))) 10 = some (oI (st.2.2)) := s2_ne (by decide) (fun _ => rfl) l10
      replace l11 : px_lg (px_s2 lv3 15 (.inr (.inl (Int64.ofInt (ol (oF (oCk (oz_ b) ca cb cl.toNat) N 0) (oR (oCk (oz_ b) ca cb cl.toNat) N a c)))))) 11 = some (oI ((a : Int))) := s2_ne (by decide) (fun _ => rfl) l11
      replace l12 : px_lg (px_s2 lv3 15 (.inr (.inl (Int64.ofInt (ol (oF (oCk (oz_ b) ca cb cl.toNat) N 0) (oR (oCk (oz_ b) ca cb cl.toNat) N a c)))))) 12 = some (oI ((c : Int))) := s2_ne (by decide) (fun _ => rfl) l12
      replace l13 : px_lg (px_s2 lv3 15 (.inr (.inl (Int64.ofInt (ol (oF (oCk (oz_ b) ca cb cl.toNat) N 0) (oR (oCk (oz_ b) ca cb cl.toNat) N a c)))))) 13 = some (.inr (.inl (Int64.ofInt (oR (oCk (oz_ b) ca cb cl.toNat) N a c)))) := s2_ne (by decide) (fun z => absurd z (by decide)) l13
      have l15 : px_lg (px_s2 lv3 15 (.inr (.inl (Int64.ofInt (ol (oF (oCk (oz_ b) ca cb cl.toNat) N 0) (oR (oCk (oz_ b) ca cb cl.toNat) N a c)))))) 15 = some (.inr (.inl (Int64.ofInt (ol (oF (oCk (oz_ b) ca cb cl.toNat) N 0) (oR (oCk (oz_ b) ca cb cl.toNat) N a c))))) := s2_eq
      generalize px_s2 lv3 15 (.inr (.inl (Int64.ofInt (ol (oF (oCk (oz_ b) ca cb cl.toNat) N 0) (oR (oCk (oz_ b) ca cb cl.toNat) N a c))))) = lv12 at l0 l1 l4 l5 l7 l9 l10 l11 l12 l13 l15 ⊢
      show t_X d 243 169 lv12 [] g2 P
      refine t_0 omy_169 rfl (ld_l l15) ?_
      refine t_0 omy_171 rfl (ld_l l7) ?_
      refine t_0 omy_173 rfl rfl ?_
      refine tx_gt omy_174 (by decide) (fun c13 => ?_) (fun c13 => ?_)
      · show t_X d 243 180 lv12 [] g2 P
        refine t_0 omy_180 rfl (ld_l l15) ?_
        refine t_2 omy_182 rfl (w := (px_s2 lv12 7 (.inr (.inl (Int64.ofInt (ol (oF (oCk (oz_ b) ca cb cl.toNat) N 0) (oR (oCk (oz_ b) ca cb cl.toNat) N a c))))), [])) rfl ?_
        replace l0 : px_lg (px_s2 lv12 7 (.inr (.inl (Int64.ofInt (ol (oF (oCk (oz_ b) ca cb cl.toNat) N 0) (oR (oCk (oz_ b) ca cb cl.toNat) N a c)))))) 0 = some (pvR 196) := s2_ne (by decide) (fun _ => rfl) l0
        replace l1 : px_lg (px_s2 lv12 7 (.inr (.inl (Int64.ofInt (ol (oF (oCk (oz_ b) ca cb cl.toNat) N 0) (oR (oCk (oz_ b) ca cb cl.toNat) N a c)))))) 1 = some (oI ((N : Int))) := s2_ne (by decide) (fun _ => rfl) l1
        replace l4 : px_lg (px_s2 lv12 7 (.inr (.inl (Int64.ofInt (ol (oF (oCk (oz_ b) ca cb cl.toNat) N 0) (oR (oCk (oz_ b) ca cb cl.toNat) N a c)))))) 4 = some (oI (what)) := s2_ne (by decide) (fun _ => rfl) l4
        replace l5 : px_lg (px_s2 lv12 7 (.inr (.inl (Int64.ofInt (ol (oF (oCk (oz_ b) ca cb cl.toNat) N 0) (oR (oCk (oz_ b) ca cb cl.toNat) N a c)))))) 5 = some (.inr (.inl (Int64.ofInt (oF (oCk (oz_ b) ca cb cl.toNat) N 0)))) := s2_ne (by decide) (fun z => absurd z (by decide)) l5
        replace l9 : px_lg (px_s2 lv12 7 (.inr (.inl (Int64.ofInt (ol (oF (oCk (oz_ b) ca cb cl.toNat) N 0) (oR (oCk (oz_ b) ca cb cl.toNat) N a c)))))) 9 = some (oI (st.2.1)) := s2_ne (by decide) (fun _ => rfl) l9
        replace l10 : px_lg (px_s2 lv12 7 (.inr (.inl (Int64.ofInt (ol (oF (oCk (oz_ b) ca cb cl.toNat) N 0) (oR (oCk (oz_ b) ca cb cl.toNat) N a c)))))) 10 = some (oI (st.2.2)) := s2_ne (by decide) (fun _ => rfl) l10
        replace l11 : px_lg (px_s2 lv12 7 (.inr (.inl (Int64.ofInt (ol (oF (oCk (oz_ b) ca cb cl.toNat) N 0) (oR (oCk (oz_ b) ca cb cl.toNat) N a c)))))) 11 = some (oI ((a : Int))) := s2_ne (by decide) (fun _ => rfl) l11
        replace l12 : px_lg (px_s2 lv12 7 (.inr (.inl (Int64.ofInt (ol (oF (oCk (oz_ b) ca cb cl.toNat) N 0) (oR (oCk (oz_ b) ca cb cl.toNat) N a c)))))) 12 = some (oI ((c : Int))) := s2_ne (by decide) (fun _ => rfl) l12
        replace l13 : px_lg (px_s2 lv12 7 (.inr (.inl (Int64.ofInt (ol (oF (oCk (oz_ b) ca cb cl.toNat) N 0) (oR (oCk (oz_ b) ca cb cl.toNat) N a c)))))) 13 = some (.inr (.inl (Int64.ofInt (oR (oCk (oz_ b) ca cb cl.toNat) N a c)))) := s2_ne (by decide) (fun z => absurd z (by decide)) l13
        replace l15 : px_lg (px_s2 lv12 7 (.inr (.inl (Int64.ofInt (ol (oF (oCk (oz_ b) ca cb cl.toNat) N 0) (oR (oCk (oz_ b) ca cb cl.toNat) N a c)))))) 15 = some (.inr (.inl (Int64.ofInt (ol (oF (oCk (oz_ b) ca cb cl.toNat) N 0) (oR (oCk (oz_ b) ca cb cl.toNat) N a c))))) := s2_ne (by decide) (fun z => absurd z (by decide)) l15
        have l7 : px_lg (px_s2 lv12 7 (.inr (.inl (Int64.ofInt (ol (oF (oCk (oz_ b) ca cb cl.toNat) N 0) (oR (oCk (oz_ b) ca cb cl.toNat) N a c)))))) 7 = some (.inr (.inl (Int64.ofInt (ol (oF (oCk (oz_ b) ca cb cl.toNat) N 0) (oR (oCk (oz_ b) ca cb cl.toNat) N a c))))) := s2_eq
        generalize px_s2 lv12 7 (.inr (.inl (Int64.ofInt (ol (oF (oCk (oz_ b) ca cb cl.toNat) N 0) (oR (oCk (oz_ b) ca cb cl.toNat) N a c))))) = lv14 at l0 l1 l4 l5 l9 l10 l11 l12 l13 l15 l7 ⊢
        show t_X d 243 184 lv14 [] g2 P
        refine t_0 omy_184 rfl (ld_i l11) ?_
        refine t_2 omy_186 rfl (w := (px_s1 lv14 9 (oI ((a : Int))), [])) rfl ?_
        replace l0 : px_lg (px_s1 lv14 9 (oI ((a : Int)))) 0 = some (pvR 196) := s1_ne (by decide) (fun _ => rfl) l0
        replace l1 : px_lg (px_s1 lv14 9 (oI ((a : Int)))) 1 = some (oI ((N : Int))) := s1_ne (by decide) (fun _ => rfl) l1
        replace l4 : px_lg (px_s1 lv14 9 (oI ((a : Int)))) 4 = some (oI (what)) := s1_ne (by decide) (fun _ => rfl) l4
        replace l5 : px_lg (px_s1 lv14 9 (oI ((a : Int)))) 5 = some (.inr (.inl (Int64.ofInt (oF (oCk (oz_ b) ca cb cl.toNat) N 0)))) := s1_ne (by decide) (fun z => absurd z (by decide)) l5
        replace l10 : px_lg (px_s1 lv14 9 (oI ((a : Int)))) 10 = some (oI (st.2.2)) := s1_ne (by decide) (fun _ => rfl) l10
        replace l11 : px_lg (px_s1 lv14 9 (oI ((a : Int)))) 11 = some (oI ((a : Int))) := s1_ne (by decide) (fun _ => rfl) l11
        replace l12 : px_lg (px_s1 lv14 9 (oI ((a : Int)))) 12 = some (oI ((c : Int))) := s1_ne (by decide) (fun _ => rfl) l12
        replace l13 : px_lg (px_s1 lv14 9 (oI ((a : Int)))) 13 = some (.inr (.inl (Int64.ofInt (oR (oCk (oz_ b) ca cb cl.toNat) N a c)))) := s1_ne (by decide) (fun z => absurd z (by decide)) l13
        replace l15 : px_lg (px_s1 lv14 9 (oI ((a : Int)))) 15 = some (.inr (.inl (Int64.ofInt (ol (oF (oCk (oz_ b) ca cb cl.toNat) N 0) (oR (oCk (oz_ b) ca cb cl.toNat) N a c))))) := s1_ne (by decide) (fun z => absurd z (by decide)) l15
        replace l7 : px_lg (px_s1 lv14 9 (oI ((a : Int)))) 7 = some (.inr (.inl (Int64.ofInt (ol (oF (oCk (oz_ b) ca cb cl.toNat) N 0) (oR (oCk (oz_ b) ca cb cl.toNat) N a c))))) := s1_ne (by decide) (fun z => absurd z (by decide)) l7
        have l9 : px_lg (px_s1 lv14 9 (oI ((a : Int)))) 9 = some (oI ((a : Int))) := s1_eq
        generalize px_s1 lv14 9 (oI ((a : Int))) = lv15 at l0 l1 l4 l5 l10 l11 l12 l13 l15 l7 l9 ⊢
        show t_X d 243 188 lv15 [] g2 P
        refine t_0 omy_188 rfl (ld_i l12) ?_
        refine t_2 omy_190 rfl (w := (px_s1 lv15 10 (oI ((c : Int))), [])) rfl ?_
        replace l0 : px_lg (px_s1 lv15 10 (oI ((c : Int)))) 0 = some (pvR 196) := s1_ne (by decide) (fun _ => rfl) l0
        replace l1 : px_lg (px_s1 lv15 10 (oI ((c : Int)))) 1 = some (oI ((N : Int))) := s1_ne (by decide) (fun _ => rfl) l1
        replace l4 : px_lg (px_s1 lv15 10 (oI ((c : Int)))) 4 = some (oI (what)) := s1_ne (by decide) (fun _ => rfl) l4
        replace l5 : px_lg (px_s1 lv15 10 (oI ((c : Int)))) 5 = some (.inr (.inl (Int64.ofInt (oF (oCk (oz_ b) ca cb cl.toNat) N 0)))) := s1_ne (by decide) (fun z => absurd z (by decide)) l5
        replace l11 : px_lg (px_s1 lv15 10 (oI ((c : Int)))) 11 = some (oI ((a : Int))) := s1_ne (by decide) (fun _ => rfl) l11
        replace l12 : px_lg (px_s1 lv15 10 (oI ((c : Int)))) 12 = some (oI ((c : Int))) := s1_ne (by decide) (fun _ => rfl) l12
        replace l13 : px_lg (px_s1 lv15 10 (oI ((c : Int)))) 13 = some (.inr (.inl (Int64.ofInt (oR (oCk (oz_ b) ca cb cl.toNat) N a c)))) := s1_ne (by decide) (fun z => absurd z (by decide)) l13
        replace l15 : px_lg (px_s1 lv15 10 (oI ((c : Int)))) 15 = some (.inr (.inl (Int64.ofInt (ol (oF (oCk (oz_ b) ca cb cl.toNat) N 0) (oR (oCk (oz_ b) ca cb cl.toNat) N a c))))) := s1_ne (by decide) (fun z => absurd z (by decide)) l15
        replace l7 : px_lg (px_s1 lv15 10 (oI ((c : Int)))) 7 = some (.inr (.inl (Int64.ofInt (ol (oF (oCk (oz_ b) ca cb cl.toNat) N 0) (oR (oCk (oz_ b) ca cb cl.toNat) N a c))))) := s1_ne (by decide) (fun z => absurd z (by decide)) l7
        replace l9 : px_lg (px_s1 lv15 10 (oI ((c : Int)))) 9 = some (oI ((a : Int))) := s1_ne (by decide) (fun _ => rfl) l9
        have l10 : px_lg (px_s1 lv15 10 (oI ((c : Int)))) 10 = some (oI ((c : Int))) := s1_eq
        generalize px_s1 lv15 10 (oI ((c : Int))) = lv16 at l0 l1 l4 l5 l11 l12 l13 l15 l7 l9 l10 ⊢
        show t_X d 243 192 lv16 [] g2 P
        refine t_2 omy_192 rfl (w := (px_s1 lv16 12 (oI ((c : Int) + 1)), [])) (pq_inc l12 (by decide)) ?_
        replace l0 : px_lg (px_s1 lv16 12 (oI ((c : Int) + 1))) 0 = some (pvR 196) := s1_ne (by decide) (fun _ => rfl) l0
        replace l1 : px_lg (px_s1 lv16 12 (oI ((c : Int) + 1))) 1 = some (oI ((N : Int))) := s1_ne (by decide) (fun _ => rfl) l1
        replace l4 : px_lg (px_s1 lv16 12 (oI ((c : Int) + 1))) 4 = some (oI (what)) := s1_ne (by decide) (fun _ => rfl) l4
        replace l5 : px_lg (px_s1 lv16 12 (oI ((c : Int) + 1))) 5 = some (.inr (.inl (Int64.ofInt (oF (oCk (oz_ b) ca cb cl.toNat) N 0)))) := s1_ne (by decide) (fun z => absurd z (by decide)) l5
        replace l11 : px_lg (px_s1 lv16 12 (oI ((c : Int) + 1))) 11 = some (oI ((a : Int))) := s1_ne (by decide) (fun _ => rfl) l11
        replace l13 : px_lg (px_s1 lv16 12 (oI ((c : Int) + 1))) 13 = some (.inr (.inl (Int64.ofInt (oR (oCk (oz_ b) ca cb cl.toNat) N a c)))) := s1_ne (by decide) (fun z => absurd z (by decide)) l13
        replace l15 : px_lg (px_s1 lv16 12 (oI ((c : Int) + 1))) 15 = some (.inr (.inl (Int64.ofInt (ol (oF (oCk (oz_ b) ca cb cl.toNat) N 0) (oR (oCk (oz_ b) ca cb cl.toNat) N a c))))) := s1_ne (by decide) (fun z => absurd z (by decide)) l15
        replace l7 : px_lg (px_s1 lv16 12 (oI ((c : Int) + 1))) 7 = some (.inr (.inl (Int64.ofInt (ol (oF (oCk (oz_ b) ca cb cl.toNat) N 0) (oR (oCk (oz_ b) ca cb cl.toNat) N a c))))) := s1_ne (by decide) (fun z => absurd z (by decide)) l7
        replace l9 : px_lg (px_s1 lv16 12 (oI ((c : Int) + 1))) 9 = some (oI ((a : Int))) := s1_ne (by decide) (fun _ => rfl) l9
        replace l10 : px_lg (px_s1 lv16 12 (oI ((c : Int) + 1))) 10 = some (oI ((c : Int))) := s1_ne (by decide) (fun _ => rfl) l10
        have l12 : px_lg (px_s1 lv16 12 (oI ((c : Int) + 1))) 12 = some (oI ((c : Int) + 1)) := s1_eq
        generalize px_s1 lv16 12 (oI ((c : Int) + 1)) = lv17 at l0 l1 l4 l5 l11 l13 l15 l7 l9 l10 l12 ⊢
        show t_X d 243 195 lv17 [] g2 P
        refine t_1 omy_195 rfl (pb_goto (pc := 195) (by decide)) ?_
        show t_X d 243 130 lv17 [] g2 P
        have eb : c + 1 - (a + 1) = (c - (a + 1)) + 1 := by omega
        have eo : oMi (oR (oCk (oz_ b) ca cb cl.toNat) N) (oF (oCk (oz_ b) ca cb cl.toNat) N 0) a st0 (c + 1 - (a + 1)) = oM (oR (oCk (oz_ b) ca cb cl.toNat) N) (oF (oCk (oz_ b) ca cb cl.toNat) N 0) st a c := by rw [eb, hst]; show oM _ _ _ a (a + 1 + (c - (a + 1))) = _; rw [show a + 1 + (c - (a + 1)) = c by omega]
        have cw := (lg_i (by omega) (by omega)).2.mp c13
        exact ih (c + 1) (ol (oF (oCk (oz_ b) ca cb cl.toNat) N 0) (oR (oCk (oz_ b) ca cb cl.toNat) N a c), (a : Int), (c : Int)) _ (by omega) (by omega) (by omega) (by rw [eo]; exact (if_pos cw).symm) ⟨by show 0 ≤ ol (oF (oCk (oz_ b) ca cb cl.toNat) N 0) (oR (oCk (oz_ b) ca cb cl.toNat) N a c); omega, by show ol (oF (oCk (oz_ b) ca cb cl.toNat) N 0) (oR (oCk (oz_ b) ca cb cl.toNat) N a c) ≤ 479001600; omega⟩ hS2 l0 l1 l4 l5 l7 l9 l10 l11 l12
      · show t_X d 243 177 lv12 [] g2 P
        refine t_1 omy_177 rfl (pb_goto (pc := 177) (by decide)) ?_
        show t_X d 243 192 lv12 [] g2 P
        refine t_2 omy_192 rfl (w := (px_s1 lv12 12 (oI ((c : Int) + 1)), [])) (pq_inc l12 (by decide)) ?_
        replace l0 : px_lg (px_s1 lv12 12 (oI ((c : Int) + 1))) 0 = some (pvR 196) := s1_ne (by decide) (fun _ => rfl) l0
        replace l1 : px_lg (px_s1 lv12 12 (oI ((c : Int) + 1))) 1 = some (oI ((N : Int))) := s1_ne (by decide) (fun _ => rfl) l1
        replace l4 : px_lg (px_s1 lv12 12 (oI ((c : Int) + 1))) 4 = some (oI (what)) := s1_ne (by decide) (fun _ => rfl) l4
        replace l5 : px_lg (px_s1 lv12 12 (oI ((c : Int) + 1))) 5 = some (.inr (.inl (Int64.ofInt (oF (oCk (oz_ b) ca cb cl.toNat) N 0)))) := s1_ne (by decide) (fun z => absurd z (by decide)) l5
        replace l7 : px_lg (px_s1 lv12 12 (oI ((c : Int) + 1))) 7 = some (.inr (.inl (Int64.ofInt st.1))) := s1_ne (by decide) (fun z => absurd z (by decide)) l7
        replace l9 : px_lg (px_s1 lv12 12 (oI ((c : Int) + 1))) 9 = some (oI (st.2.1)) := s1_ne (by decide) (fun _ => rfl) l9
        replace l10 : px_lg (px_s1 lv12 12 (oI ((c : Int) + 1))) 10 = some (oI (st.2.2)) := s1_ne (by decide) (fun _ => rfl) l10
        replace l11 : px_lg (px_s1 lv12 12 (oI ((c : Int) + 1))) 11 = some (oI ((a : Int))) := s1_ne (by decide) (fun _ => rfl) l11
        replace l13 : px_lg (px_s1 lv12 12 (oI ((c : Int) + 1))) 13 = some (.inr (.inl (Int64.ofInt (oR (oCk (oz_ b) ca cb cl.toNat) N a c)))) := s1_ne (by decide) (fun z => absurd z (by decide)) l13
        replace l15 : px_lg (px_s1 lv12 12 (oI ((c : Int) + 1))) 15 = some (.inr (.inl (Int64.ofInt (ol (oF (oCk (oz_ b) ca cb cl.toNat) N 0) (oR (oCk (oz_ b) ca cb cl.toNat) N a c))))) := s1_ne (by decide) (fun z => absurd z (by decide)) l15
        have l12 : px_lg (px_s1 lv12 12 (oI ((c : Int) + 1))) 12 = some (oI ((c : Int) + 1)) := s1_eq
        generalize px_s1 lv12 12 (oI ((c : Int) + 1)) = lv18 at l0 l1 l4 l5 l7 l9 l10 l11 l13 l15 l12 ⊢
        show t_X d 243 195 lv18 [] g2 P
        refine t_1 omy_195 rfl (pb_goto (pc := 195) (by decide)) ?_
        show t_X d 243 130 lv18 [] g2 P
        have eb : c + 1 - (a + 1) = (c - (a + 1)) + 1 := by omega
        have eo : oMi (oR (oCk (oz_ b) ca cb cl.toNat) N) (oF (oCk (oz_ b) ca cb cl.toNat) N 0) a st0 (c + 1 - (a + 1)) = oM (oR (oCk (oz_ b) ca cb cl.toNat) N) (oF (oCk (oz_ b) ca cb cl.toNat) N 0) st a c := by rw [eb, hst]; show oM _ _ _ a (a + 1 + (c - (a + 1))) = _; rw [show a + 1 + (c - (a + 1)) = c by omega]
        have cw : ¬ st.1 < ol (oF (oCk (oz_ b) ca cb cl.toNat) N 0) (oR (oCk (oz_ b) ca cb cl.toNat) N a c) := fun z => c13 ((lg_i (by omega) (by omega)).2.mpr z)
        exact ih (c + 1) st _ (by omega) (by omega) (by omega) (by rw [eo]; exact (if_neg cw).symm) hst1 hS2 l0 l1 l4 l5 l7 l9 l10 l11 l12
set_option maxHeartbeats 4000000 in
theorem omyO {d N : Nat} (hd : 4 ≤ d) (hN : N ≤ 12) {g0 : pH} {cl : Int} {sp ca cb : tC} (hcl : cF g0 196 22 = cl) (hca : fA g0 206 = ca) (hcb : fA g0 207 = cb) (hcl2 : 0 ≤ cl ∧ cl ≤ 24) {b : Nat → Bool} (hbN : cnt b 32 = N) (hsp : oNu b sp) {P : Option pv × pH → Prop} {what : Int} (hall : 0 ≤ (oF (oCk (oz_ b) ca cb cl.toNat) N 0) ∧ (oF (oCk (oz_ b) ca cb cl.toNat) N 0) ≤ 479001600) (hC : ∀ (g : pH) (mb : tC) (st : Int × Int × Int), st = oMo (oR (oCk (oz_ b) ca cb cl.toNat) N) (oF (oCk (oz_ b) ca cb cl.toNat) N 0) N N → 0 ≤ st.1 ∧ st.1 ≤ 479001600 → mE g0 g N sp mb → ∀ {lv : List (Nat × pv)}, px_lg lv 0 = some (pvR 196) → px_lg lv 1 = some (oI ((N : Int))) → px_lg lv 4 = some (oI (what)) → px_lg lv 5 = some (.inr (.inl (Int64.ofInt (oF (oCk (oz_ b) ca cb cl.toNat) N 0)))) → px_lg lv 7 = some (.inr (.inl (Int64.ofInt st.1))) → px_lg lv 9 = some (oI (st.2.1)) → px_lg lv 10 = some (oI (st.2.2)) → t_X d 243 204 lv [] g P) : ∀ (m a : Nat) (st : Int × Int × Int) (g : pH) {mb : tC}, N - a ≤ m → a ≤ N → st = oMo (oR (oCk (oz_ b) ca cb cl.toNat) N) (oF (oCk (oz_ b) ca cb cl.toNat) N 0) N a → 0 ≤ st.1 ∧ st.1 ≤ 479001600 → mE g0 g N sp mb → ∀ {lv : List (Nat × pv)}, px_lg lv 0 = some (pvR 196) → px_lg lv 1 = some (oI ((N : Int))) → px_lg lv 4 = some (oI (what)) → px_lg lv 5 = some (.inr (.inl (Int64.ofInt (oF (oCk (oz_ b) ca cb cl.toNat) N 0)))) → px_lg lv 7 = some (.inr (.inl (Int64.ofInt st.1))) → px_lg lv 9 = some (oI (st.2.1)) → px_lg lv 10 = some (oI (st.2.2)) → px_lg lv 11 = some (oI ((a : Int))) → t_X d 243 118 lv [] g P := by
  intro m
  induction m with
  | zero =>
    intro a st g mb hm ha hst hst1 hS lv l0 l1 l4 l5 l7 l9 l10 l11
    refine t_0 omy_118 rfl (ld_i l11) ?_
    refine t_0 omy_120 rfl (ld_i l1) ?_
    refine tb_ge omy_121 (by decide) ⟨by omega, by omega⟩ ⟨by omega, by omega⟩ (fun c1 => ?_) (fun c1 => absurd c1 (by omega))
    show t_X d 243 204 lv [] g P
    exact hC _ _ _ (by rw [hst, show a = N by omega]) hst1 hS l0 l1 l4 l5 l7 l9 l10
  | succ m ih =>
    intro a st g mb hm ha hst hst1 hS lv l0 l1 l4 l5 l7 l9 l10 l11
    by_cases haN : a = N
    · refine t_0 omy_118 rfl (ld_i l11) ?_
      refine t_0 omy_120 rfl (ld_i l1) ?_
      refine tb_ge omy_121 (by decide) ⟨by omega, by omega⟩ ⟨by omega, by omega⟩ (fun c1 => ?_) (fun c1 => absurd c1 (by omega))
      show t_X d 243 204 lv [] g P
      exact hC _ _ _ (by rw [hst, show a = N by omega]) hst1 hS l0 l1 l4 l5 l7 l9 l10
    refine t_0 omy_118 rfl (ld_i l11) ?_
    refine t_0 omy_120 rfl (ld_i l1) ?_
    refine tb_ge omy_121 (by decide) ⟨by omega, by omega⟩ ⟨by omega, by omega⟩ (fun c1 => absurd c1 (by omega)) (fun c1 => ?_)
    show t_X d 243 124 lv [] g P
    refine t_0 omy_124 rfl (ld_i l11) ?_
    refine t_0 omy_126 rfl rfl ?_
    refine t_0 omy_127 rfl pq_add ?_
    refine t_2 omy_128 rfl (w := (px_s1 lv 12 (oI ((a : Int) + 1)), [])) rfl ?_
    replace l0 : px_lg (px_s1 lv 12 (oI ((a : Int) + 1))) 0 = some (pvR 196) := s1_ne (by decide) (fun _ => rfl) l0
    replace l1 : px_lg (px_s1 lv 12 (oI ((a : Int) + 1))) 1 = some (oI ((N : Int))) := s1_ne (by decide) (fun _ => rfl) l1
    replace l4 : px_lg (px_s1 lv 12 (oI ((a : Int) + 1))) 4 = some (oI (what)) := s1_ne (by decide) (fun _ => rfl) l4
    replace l5 : px_lg (px_s1 lv 12 (oI ((a : Int) + 1))) 5 = some (.inr (.inl (Int64.ofInt (oF (oCk (oz_ b) ca cb cl.toNat) N 0)))) := s1_ne (by decide) (fun z => absurd z (by decide)) l5
    replace l7 : px_lg (px_s1 lv 12 (oI ((a : Int) + 1))) 7 = some (.inr (.inl (Int64.ofInt st.1))) := s1_ne (by decide) (fun z => absurd z (by decide)) l7
    replace l9 : px_lg (px_s1 lv 12 (oI ((a : Int) + 1))) 9 = some (oI (st.2.1)) := s1_ne (by decide) (fun _ => rfl) l9
    replace l10 : px_lg (px_s1 lv 12 (oI ((a : Int) + 1))) 10 = some (oI (st.2.2)) := s1_ne (by decide) (fun _ => rfl) l10
    replace l11 : px_lg (px_s1 lv 12 (oI ((a : Int) + 1))) 11 = some (oI ((a : Int))) := s1_ne (by decide) (fun _ => rfl) l11
    have l12 : px_lg (px_s1 lv 12 (oI ((a : Int) + 1))) 12 = some (oI ((a : Int) + 1)) := s1_eq
    generalize px_s1 lv 12 (oI ((a : Int) + 1)) = lv2 at l0 l1 l4 l5 l7 l9 l10 l11 l12 ⊢
    show t_X d 243 130 lv2 [] g P
    refine omyI hd hN hcl hca hcb hcl2 hbN hsp hall (by omega) (fun g9 mb9 st9 hst9 hst19 hS9 {lv9} l0 l1 l4 l5 l7 l9 l10 l11 => ?_) N (a + 1) st _ (by omega) (by omega) (by omega) (by rw [Nat.sub_self]; rfl) hst1 hS l0 l1 l4 l5 l7 l9 l10 l11 l12
    show t_X d 243 198 lv9 [] g9 P
    refine t_2 omy_198 rfl (w := (px_s1 lv9 11 (oI ((a : Int) + 1)), [])) (pq_inc l11 (by decide)) ?_
    replace l0 : px_lg (px_s1 lv9 11 (oI ((a : Int) + 1))) 0 = some (pvR 196) := s1_ne (by decide) (fun _ => rfl) l0
    replace l1 : px_lg (px_s1 lv9 11 (oI ((a : Int) + 1))) 1 = some (oI ((N : Int))) := s1_ne (by decide) (fun _ => rfl) l1
    replace l4 : px_lg (px_s1 lv9 11 (oI ((a : Int) + 1))) 4 = some (oI (what)) := s1_ne (by decide) (fun _ => rfl) l4
    replace l5 : px_lg (px_s1 lv9 11 (oI ((a : Int) + 1))) 5 = some (.inr (.inl (Int64.ofInt (oF (oCk (oz_ b) ca cb cl.toNat) N 0)))) := s1_ne (by decide) (fun z => absurd z (by decide)) l5
    replace l7 : px_lg (px_s1 lv9 11 (oI ((a : Int) + 1))) 7 = some (.inr (.inl (Int64.ofInt st9.1))) := s1_ne (by decide) (fun z => absurd z (by decide)) l7
    replace l9 : px_lg (px_s1 lv9 11 (oI ((a : Int) + 1))) 9 = some (oI (st9.2.1)) := s1_ne (by decide) (fun _ => rfl) l9
    replace l10 : px_lg (px_s1 lv9 11 (oI ((a : Int) + 1))) 10 = some (oI (st9.2.2)) := s1_ne (by decide) (fun _ => rfl) l10
    have l11 : px_lg (px_s1 lv9 11 (oI ((a : Int) + 1))) 11 = some (oI ((a : Int) + 1)) := s1_eq
    generalize px_s1 lv9 11 (oI ((a : Int) + 1)) = lv3 at l0 l1 l4 l5 l7 l9 l10 l11 ⊢
    show t_X d 243 201 lv3 [] g9 P
    refine t_1 omy_201 rfl (pb_goto (pc := 201) (by decide)) ?_
    show t_X d 243 118 lv3 [] g9 P
    exact ih (a + 1) st9 _ (by omega) (by omega) (by rw [hst9, hst]; rfl) hst19 hS9 l0 l1 l4 l5 l7 l9 l10 l11
set_option maxHeartbeats 4000000 in
theorem omyE {d N : Nat} (hd : 4 ≤ d) (hN : N ≤ 12) {g0 : pH} {cl : Int} {sp ca cb : tC} (hcl : cF g0 196 22 = cl) (hca : fA g0 206 = ca) (hcb : fA g0 207 = cb) (hcl2 : 0 ≤ cl ∧ cl ≤ 24) {b : Nat → Bool} (hbN : cnt b 32 = N) (hsp : oNu b sp) {P : Option pv × pH → Prop} {what : Int} {i j : Int} (hw : 0 < what ∧ what ≤ 3) (hyes : ∀ g1 : pH, J_ jMo g0 g1 → P (some (.inr (.inl (oAn (oCk (oz_ b) ca cb cl.toNat) N b sp i j what))), g1)) {g : pH} {mb : tC} {st : Int × Int × Int} (hst : st = oMo (oR (oCk (oz_ b) ca cb cl.toNat) N) (oF (oCk (oz_ b) ca cb cl.toNat) N 0) N N) (hst1 : 0 ≤ st.1 ∧ st.1 ≤ 479001600) (hS : mE g0 g N sp mb) {lv : List (Nat × pv)} (l0 : px_lg lv 0 = some (pvR 196)) (l1 : px_lg lv 1 = some (oI ((N : Int)))) (l4 : px_lg lv 4 = some (oI (what))) (l5 : px_lg lv 5 = some (.inr (.inl (Int64.ofInt (oF (oCk (oz_ b) ca cb cl.toNat) N 0))))) (l7 : px_lg lv 7 = some (.inr (.inl (Int64.ofInt st.1)))) (l9 : px_lg lv 9 = some (oI (st.2.1))) (l10 : px_lg lv 10 = some (oI (st.2.2))) : t_X d 243 204 lv [] g P := by
  have hk : oK N st := by rw [hst]; exact oMo_k (Nat.le_refl N)
  have hk2 : (st.2.1 = -1 ∧ st.1 = 0) ∨ (0 < st.1 ∧ 0 ≤ st.2.1 ∧ st.2.1 < N ∧ 0 ≤ st.2.2 ∧ st.2.2 < N) := by
    rcases hk with hk | hk
    · exact Or.inl ⟨by rw [hk], by rw [hk]⟩
    · exact Or.inr hk
  clear hk
  refine t_0 omy_204 rfl (ld_i l9) ?_
  refine t_0 omy_206 rfl rfl ?_
  refine tb_ne omy_207 (by decide) ⟨by omega, by omega⟩ ⟨by omega, by omega⟩ (fun c1 => ?_) (fun c1 => ?_)
  · show t_X d 243 216 lv [] g P
    refine t_0 omy_216 rfl (ld_i l4) ?_
    refine t_0 omy_218 rfl rfl ?_
    refine tb_ne omy_219 (by decide) ⟨by omega, by omega⟩ ⟨by omega, by omega⟩ (fun c2 => ?_) (fun c2 => ?_)
    · show t_X d 243 233 lv [] g P
      refine t_0 omy_233 rfl (ld_i l4) ?_
      refine t_0 omy_235 rfl rfl ?_
      refine tb_ne omy_236 (by decide) ⟨by omega, by omega⟩ ⟨by omega, by omega⟩ (fun c3 => ?_) (fun c3 => ?_)
      · show t_X d 243 250 lv [] g P
        refine t_0 omy_250 rfl (ld_l l7) ?_
        refine t_5 omy_252 rfl rfl ?_
        have hfin := hyes _ (S_J hS)
        unfold oAn at hfin
        rw [if_neg (by omega), ← hst] at hfin
        rw [if_neg (by omega)] at hfin
        rw [if_neg (by omega), if_neg (by omega)] at hfin
        exact hfin
      · show t_X d 243 239 lv [] g P
        refine t_0 omy_239 rfl (ld_a l0) ?_
        refine t_0 omy_240 rfl (ocq_196_68 (S_J hS).1) ?_
        show t_X d 243 243 lv [pvR 238] g P
        refine t_0 omy_243 rfl (ld_i l10) ?_
        have r4 := pb_a (S_J hS).1 oez_238 (j := st.2.2.toNat) (by omega) ogu_238 (show fA g 238 = sp from S_a hS 0 (Nat.le_of_ble_eq_true rfl))
        refine t_0 omy_245 rfl (pq_iv oez_238 rfl ⟨by omega, by omega⟩ (show fA g 238 = sp from S_a hS 0 (Nat.le_of_ble_eq_true rfl))) ?_
        show t_X d 243 246 lv [oI (sp st.2.2.toNat)] g P
        refine t_0 omy_246 rfl rfl ?_
        rw [oil (by omega) (by omega)]
        show t_X d 243 247 lv [.inr (.inl (Int64.ofInt (sp st.2.2.toNat)))] g P
        refine t_1 omy_247 rfl (pb_goto (pc := 247) (by decide)) ?_
        show t_X d 243 252 lv [.inr (.inl (Int64.ofInt (sp st.2.2.toNat)))] g P
        refine t_5 omy_252 rfl rfl ?_
        have hfin := hyes _ (S_J hS)
        unfold oAn at hfin
        rw [if_neg (by omega), ← hst] at hfin
        rw [if_neg (by omega)] at hfin
        rw [if_neg (by omega), if_pos (by omega)] at hfin
        rw [show oNm sp st.2.2 = sp st.2.2.toNat from if_neg (by omega)] at hfin
        exact hfin
    · show t_X d 243 222 lv [] g P
      refine t_0 omy_222 rfl (ld_a l0) ?_
      refine t_0 omy_223 rfl (ocq_196_68 (S_J hS).1) ?_
      show t_X d 243 226 lv [pvR 238] g P
      refine t_0 omy_226 rfl (ld_i l9) ?_
      have r5 := pb_a (S_J hS).1 oez_238 (j := st.2.1.toNat) (by omega) ogu_238 (show fA g 238 = sp from S_a hS 0 (Nat.le_of_ble_eq_true rfl))
      refine t_0 omy_228 rfl (pq_iv oez_238 rfl ⟨by omega, by omega⟩ (show fA g 238 = sp from S_a hS 0 (Nat.le_of_ble_eq_true rfl))) ?_
      show t_X d 243 229 lv [oI (sp st.2.1.toNat)] g P
      refine t_0 omy_229 rfl rfl ?_
      rw [oil (by omega) (by omega)]
      show t_X d 243 230 lv [.inr (.inl (Int64.ofInt (sp st.2.1.toNat)))] g P
      refine t_1 omy_230 rfl (pb_goto (pc := 230) (by decide)) ?_
      show t_X d 243 252 lv [.inr (.inl (Int64.ofInt (sp st.2.1.toNat)))] g P
      refine t_5 omy_252 rfl rfl ?_
      have hfin := hyes _ (S_J hS)
      unfold oAn at hfin
      rw [if_neg (by omega), ← hst] at hfin
      rw [if_neg (by omega)] at hfin
      rw [if_pos (by omega)] at hfin
      rw [show oNm sp st.2.1 = sp st.2.1.toNat from if_neg (by omega)] at hfin
      exact hfin
  · show t_X d 243 210 lv [] g P
    refine t_0 omy_210 rfl rfl ?_
    refine t_1 omy_213 rfl (pb_goto (pc := 213) (by decide)) ?_
    show t_X d 243 252 lv [.inr (.inl (xe_k 9223372036854775806))] g P
    refine t_5 omy_252 rfl rfl ?_
    have hfin := hyes _ (S_J hS)
    unfold oAn at hfin
    rw [if_neg (by omega), ← hst] at hfin
    rw [if_pos (by omega)] at hfin
    exact hfin
set_option maxHeartbeats 4000000 in
theorem omyS {d N : Nat} (hd : 4 ≤ d) (hN : N ≤ 12) {g0 : pH} {cl : Int} {sp ca cb : tC} (hcl : cF g0 196 22 = cl) (hca : fA g0 206 = ca) (hcb : fA g0 207 = cb) (hcl2 : 0 ≤ cl ∧ cl ≤ 24) {b : Nat → Bool} (hbN : cnt b 32 = N) (hsp : oNu b sp) {P : Option pv × pH → Prop} {what : Int} {i j : Int} (hi : -2147483648 ≤ i ∧ i ≤ 2147483647) (hj : -2147483648 ≤ j ∧ j ≤ 2147483647) (hw : 0 ≤ what ∧ what ≤ 3) (hyes : ∀ g1 : pH, J_ jMo g0 g1 → P (some (.inr (.inl (oAn (oCk (oz_ b) ca cb cl.toNat) N b sp i j what))), g1)) {g : pH} {mb : tC} (hS : mE g0 g N sp mb) {lv : List (Nat × pv)} (l0 : px_lg lv 0 = some (pvR 196)) (l1 : px_lg lv 1 = some (oI (N : Int))) (l2 : px_lg lv 2 = some (oI i)) (l3 : px_lg lv 3 = some (oI j)) (l4 : px_lg lv 4 = some (oI what)) : t_X d 243 49 lv [] g P := by
  have hall := oF_b (A := (oCk (oz_ b) ca cb cl.toNat)) (S := 0) hN
  have hz1 := oz_b (b := b) (i := i)
  have hz2 := oz_b (b := b) (i := j)
  refine t_0 omy_49 rfl (ld_i l4) ?_
  refine tz_ne omy_51 (by decide) ⟨by omega, by omega⟩ (fun c1 => ?_) (fun c1 => ?_)
  · show t_X d 243 98 lv [] g P
    refine t_0 omy_98 rfl (ld_a l0) ?_
    refine t_0 omy_99 rfl rfl ?_
    refine t_0 omy_100 rfl rfl ?_
    refine t_3 omy_101 rfl (ar := ([pvR 196, oI (-1), oI (-1)], [])) (pcal_w (as := [oI (-1), oI (-1)]) rfl rfl rfl oeo_196) ⟨by omega, Nat.le_of_ble_eq_true rfl, Nat.le_of_ble_eq_true rfl, rfl⟩ ?_
    refine omlL0 (by omega) hN hcl hca hcb hcl2 hbN hsp (p := -1) (q := -1) (fun g8 mb8 hA8 hS8 {lv8} u0 u1 u2 => oml_n (by omega) hN hA8 (fun g2 mb2 hS2 => ?_) hS8 u0 u1 u2) hS rfl rfl rfl
    show t_X d 243 104 lv [.inr (.inl (Int64.ofInt (oF (oCk (oz_ b) ca cb cl.toNat) N 0)))] g2 P
    refine t_2 omy_104 rfl (w := (px_s2 lv 5 (.inr (.inl (Int64.ofInt (oF (oCk (oz_ b) ca cb cl.toNat) N 0)))), [])) rfl ?_
    replace l0 : px_lg (px_s2 lv 5 (.inr (.inl (Int64.ofInt (oF (oCk (oz_ b) ca cb cl.toNat) N 0))))) 0 = some (pvR 196) := s2_ne (by decide) (fun _ => rfl) l0
    replace l1 : px_lg (px_s2 lv 5 (.inr (.inl (Int64.ofInt (oF (oCk (oz_ b) ca cb cl.toNat) N 0))))) 1 = some (oI ((N : Int))) := s2_ne (by decide) (fun _ => rfl) l1
    replace l2 : px_lg (px_s2 lv 5 (.inr (.inl (Int64.ofInt (oF (oCk (oz_ b) ca cb cl.toNat) N 0))))) 2 = some (oI (i)) := s2_ne (by decide) (fun _ => rfl) l2
    replace l3 : px_lg (px_s2 lv 5 (.inr (.inl (Int64.ofInt (oF (oCk (oz_ b) ca cb cl.toNat) N 0))))) 3 = some (oI (j)) := s2_ne (by decide) (fun _ => rfl) l3
    replace l4 : px_lg (px_s2 lv 5 (.inr (.inl (Int64.ofInt (oF (oCk (oz_ b) ca cb cl.toNat) N 0))))) 4 = some (oI (what)) := s2_ne (by decide) (fun _ => rfl) l4
    have l5 : px_lg (px_s2 lv 5 (.inr (.inl (Int64.ofInt (oF (oCk (oz_ b) ca cb cl.toNat) N 0))))) 5 = some (.inr (.inl (Int64.ofInt (oF (oCk (oz_ b) ca cb cl.toNat) N 0)))) := s2_eq
    generalize px_s2 lv 5 (.inr (.inl (Int64.ofInt (oF (oCk (oz_ b) ca cb cl.toNat) N 0)))) = lv3 at l0 l1 l2 l3 l4 l5 ⊢
    show t_X d 243 106 lv3 [] g2 P
    refine t_0 omy_106 rfl rfl ?_
    refine t_2 omy_107 rfl (w := (px_s2 lv3 7 (.inr (.inl (Int64.ofNat 0))), [])) rfl ?_
    replace l0 : px_lg (px_s2 lv3 7 (.inr (.inl (Int64.ofNat 0)))) 0 = some (pvR 196) := s2_ne (by decide) (fun _ => rfl) l0
    replace l1 : px_lg (px_s2 lv3 7 (.inr (.inl (Int64.ofNat 0)))) 1 = some (oI ((N : Int))) := s2_ne (by decide) (fun _ => rfl) l1
    replace l2 : px_lg (px_s2 lv3 7 (.inr (.inl (Int64.ofNat 0)))) 2 = some (oI (i)) := s2_ne (by decide) (fun _ => rfl) l2
    replace l3 : px_lg (px_s2 lv3 7 (.inr (.inl (Int64.ofNat 0)))) 3 = some (oI (j)) := s2_ne (by decide) (fun _ => rfl) l3
    replace l4 : px_lg (px_s2 lv3 7 (.inr (.inl (Int64.ofNat 0)))) 4 = some (oI (what)) := s2_ne (by decide) (fun _ => rfl) l4
    replace l5 : px_lg (px_s2 lv3 7 (.inr (.inl (Int64.ofNat 0)))) 5 = some (.inr (.inl (Int64.ofInt (oF (oCk (oz_ b) ca cb cl.toNat) N 0)))) := s2_ne (by decide) (fun z => absurd z (by decide)) l5
    have l7 : px_lg (px_s2 lv3 7 (.inr (.inl (Int64.ofNat 0)))) 7 = some (.inr (.inl (Int64.ofNat 0))) := s2_eq
    generalize px_s2 lv3 7 (.inr (.inl (Int64.ofNat 0))) = lv4 at l0 l1 l2 l3 l4 l5 l7 ⊢
    show t_X d 243 109 lv4 [] g2 P
    refine t_0 omy_109 rfl rfl ?_
    refine t_2 omy_110 rfl (w := (px_s1 lv4 9 (oI (-1)), [])) rfl ?_
    replace l0 : px_lg (px_s1 lv4 9 (oI (-1))) 0 = some (pvR 196) := s1_ne (by decide) (fun _ => rfl) l0
    replace l1 : px_lg (px_s1 lv4 9 (oI (-1))) 1 = some (oI ((N : Int))) := s1_ne (by decide) (fun _ => rfl) l1
    replace l2 : px_lg (px_s1 lv4 9 (oI (-1))) 2 = some (oI (i)) := s1_ne (by decide) (fun _ => rfl) l2
    replace l3 : px_lg (px_s1 lv4 9 (oI (-1))) 3 = some (oI (j)) := s1_ne (by decide) (fun _ => rfl) l3
    replace l4 : px_lg (px_s1 lv4 9 (oI (-1))) 4 = some (oI (what)) := s1_ne (by decide) (fun _ => rfl) l4
    replace l5 : px_lg (px_s1 lv4 9 (oI (-1))) 5 = some (.inr (.inl (Int64.ofInt (oF (oCk (oz_ b) ca cb cl.toNat) N 0)))) := s1_ne (by decide) (fun z => absurd z (by decide)) l5
    replace l7 : px_lg (px_s1 lv4 9 (oI (-1))) 7 = some (.inr (.inl (Int64.ofNat 0))) := s1_ne (by decide) (fun z => absurd z (by decide)) l7
    have l9 : px_lg (px_s1 lv4 9 (oI (-1))) 9 = some (oI (-1)) := s1_eq
    generalize px_s1 lv4 9 (oI (-1)) = lv5 at l0 l1 l2 l3 l4 l5 l7 l9 ⊢
    show t_X d 243 112 lv5 [] g2 P
    refine t_0 omy_112 rfl rfl ?_
    refine t_2 omy_113 rfl (w := (px_s1 lv5 10 (oI (-1)), [])) rfl ?_
    replace l0 : px_lg (px_s1 lv5 10 (oI (-1))) 0 = some (pvR 196) := s1_ne (by decide) (fun _ => rfl) l0
    replace l1 : px_lg (px_s1 lv5 10 (oI (-1))) 1 = some (oI ((N : Int))) := s1_ne (by decide) (fun _ => rfl) l1
    replace l2 : px_lg (px_s1 lv5 10 (oI (-1))) 2 = some (oI (i)) := s1_ne (by decide) (fun _ => rfl) l2
    replace l3 : px_lg (px_s1 lv5 10 (oI (-1))) 3 = some (oI (j)) := s1_ne (by decide) (fun _ => rfl) l3
    replace l4 : px_lg (px_s1 lv5 10 (oI (-1))) 4 = some (oI (what)) := s1_ne (by decide) (fun _ => rfl) l4
    replace l5 : px_lg (px_s1 lv5 10 (oI (-1))) 5 = some (.inr (.inl (Int64.ofInt (oF (oCk (oz_ b) ca cb cl.toNat) N 0)))) := s1_ne (by decide) (fun z => absurd z (by decide)) l5
    replace l7 : px_lg (px_s1 lv5 10 (oI (-1))) 7 = some (.inr (.inl (Int64.ofNat 0))) := s1_ne (by decide) (fun z => absurd z (by decide)) l7
    replace l9 : px_lg (px_s1 lv5 10 (oI (-1))) 9 = some (oI (-1)) := s1_ne (by decide) (fun _ => rfl) l9
    have l10 : px_lg (px_s1 lv5 10 (oI (-1))) 10 = some (oI (-1)) := s1_eq
    generalize px_s1 lv5 10 (oI (-1)) = lv6 at l0 l1 l2 l3 l4 l5 l7 l9 l10 ⊢
    show t_X d 243 115 lv6 [] g2 P
    refine t_0 omy_115 rfl rfl ?_
    refine t_2 omy_116 rfl (w := (px_s1 lv6 11 (oI 0), [])) rfl ?_
    replace l0 : px_lg (px_s1 lv6 11 (oI 0)) 0 = some (pvR 196) := s1_ne (by decide) (fun _ => rfl) l0
    replace l1 : px_lg (px_s1 lv6 11 (oI 0)) 1 = some (oI ((N : Int))) := s1_ne (by decide) (fun _ => rfl) l1
    replace l2 : px_lg (px_s1 lv6 11 (oI 0)) 2 = some (oI (i)) := s1_ne (by decide) (fun _ => rfl) l2
    replace l3 : px_lg (px_s1 lv6 11 (oI 0)) 3 = some (oI (j)) := s1_ne (by decide) (fun _ => rfl) l3
    replace l4 : px_lg (px_s1 lv6 11 (oI 0)) 4 = some (oI (what)) := s1_ne (by decide) (fun _ => rfl) l4
    replace l5 : px_lg (px_s1 lv6 11 (oI 0)) 5 = some (.inr (.inl (Int64.ofInt (oF (oCk (oz_ b) ca cb cl.toNat) N 0)))) := s1_ne (by decide) (fun z => absurd z (by decide)) l5
    replace l7 : px_lg (px_s1 lv6 11 (oI 0)) 7 = some (.inr (.inl (Int64.ofNat 0))) := s1_ne (by decide) (fun z => absurd z (by decide)) l7
    replace l9 : px_lg (px_s1 lv6 11 (oI 0)) 9 = some (oI (-1)) := s1_ne (by decide) (fun _ => rfl) l9
    replace l10 : px_lg (px_s1 lv6 11 (oI 0)) 10 = some (oI (-1)) := s1_ne (by decide) (fun _ => rfl) l10
    have l11 : px_lg (px_s1 lv6 11 (oI 0)) 11 = some (oI 0) := s1_eq
    generalize px_s1 lv6 11 (oI 0) = lv7 at l0 l1 l2 l3 l4 l5 l7 l9 l10 l11 ⊢
    show t_X d 243 118 lv7 [] g2 P
    have l7 : px_lg lv7 7 = some (.inr (.inl (Int64.ofInt 0))) := l7
    exact omyO hd hN hcl hca hcb hcl2 hbN hsp hall (fun g9 mb9 st9 hst9 hst19 hS9 {lv9} u0 u1 u4 u5 u7 u9 u10 => omyE hd hN hcl hca hcb hcl2 hbN hsp (by omega) hyes hst9 hst19 hS9 u0 u1 u4 u5 u7 u9 u10) N 0 (0, -1, -1) _ (by omega) (by omega) rfl ⟨by decide, by decide⟩ hS2 l0 l1 l4 l5 l7 l9 l10 l11
  · show t_X d 243 54 lv [] g P
    refine t_0 omy_54 rfl (ld_a l0) ?_
    refine t_0 omy_55 rfl (ld_i l2) ?_
    refine t_3 omy_56 rfl (ar := ([pvR 196, oI (i)], [])) (pcal_w (as := [oI (i)]) rfl rfl rfl oeo_196) ⟨by omega, Nat.le_of_ble_eq_true rfl, Nat.le_of_ble_eq_true rfl, rfl⟩ ?_
    refine sa_run (S_J hS).1 ⟨by omega, by omega⟩ (fun z8 hz8 => ?_) rfl rfl
    have ez8 : z8 = oz_ b (i) := om_z hbN hsp (by rw [show fF g 71 = (N : Int) from S_f hS 0 (Nat.le_of_ble_eq_true rfl), show fA g 238 = sp from S_a hS 0 (Nat.le_of_ble_eq_true rfl)] at hz8; exact hz8)
    rw [ez8]
    show t_X d 243 59 lv [oI (oz_ b i)] g P
    refine t_0 omy_59 rfl rfl ?_
    refine tb_eq omy_60 (by decide) ⟨by omega, by omega⟩ ⟨by omega, by omega⟩ (fun c9 => ?_) (fun c9 => ?_)
    · show t_X d 243 77 lv [] g P
      refine t_0 omy_77 rfl rfl ?_
      refine t_1 omy_80 rfl (pb_goto (pc := 80) (by decide)) ?_
      show t_X d 243 97 lv [.inr (.inl (xe_k 9223372036854775805))] g P
      refine t_5 omy_97 rfl rfl ?_
      have hfin := hyes _ (S_J hS)
      unfold oAn at hfin
      rw [if_pos (by omega)] at hfin
      rw [if_neg (by omega)] at hfin
      exact hfin
    · show t_X d 243 63 lv [] g P
      refine t_0 omy_63 rfl (ld_a l0) ?_
      refine t_0 omy_64 rfl (ld_i l3) ?_
      refine t_3 omy_65 rfl (ar := ([pvR 196, oI (j)], [])) (pcal_w (as := [oI (j)]) rfl rfl rfl oeo_196) ⟨by omega, Nat.le_of_ble_eq_true rfl, Nat.le_of_ble_eq_true rfl, rfl⟩ ?_
      refine sa_run (S_J hS).1 ⟨by omega, by omega⟩ (fun z10 hz10 => ?_) rfl rfl
      have ez10 : z10 = oz_ b (j) := om_z hbN hsp (by rw [show fF g 71 = (N : Int) from S_f hS 0 (Nat.le_of_ble_eq_true rfl), show fA g 238 = sp from S_a hS 0 (Nat.le_of_ble_eq_true rfl)] at hz10; exact hz10)
      rw [ez10]
      show t_X d 243 68 lv [oI (oz_ b j)] g P
      refine t_0 omy_68 rfl rfl ?_
      refine tb_eq omy_69 (by decide) ⟨by omega, by omega⟩ ⟨by omega, by omega⟩ (fun c11 => ?_) (fun c11 => ?_)
      · show t_X d 243 77 lv [] g P
        refine t_0 omy_77 rfl rfl ?_
        refine t_1 omy_80 rfl (pb_goto (pc := 80) (by decide)) ?_
        show t_X d 243 97 lv [.inr (.inl (xe_k 9223372036854775805))] g P
        refine t_5 omy_97 rfl rfl ?_
        have hfin := hyes _ (S_J hS)
        unfold oAn at hfin
        rw [if_pos (by omega)] at hfin
        rw [if_neg (by omega)] at hfin
        exact hfin
      · show t_X d 243 72 lv [] g P
        refine t_0 omy_72 rfl (ld_i l2) ?_
        refine t_0 omy_73 rfl (ld_i l3) ?_
        refine tb_ne omy_74 (by decide) ⟨by omega, by omega⟩ ⟨by omega, by omega⟩ (fun c12 => ?_) (fun c12 => ?_)
        · show t_X d 243 83 lv [] g P
          refine t_0 omy_83 rfl (ld_a l0) ?_
          refine t_0 omy_84 rfl (ld_a l0) ?_
          refine t_0 omy_85 rfl (ld_i l2) ?_
          refine t_3 omy_86 rfl (ar := ([pvR 196, oI (i)], [pvR 196])) (pcal_w (as := [oI (i)]) rfl rfl rfl oeo_196) ⟨by omega, Nat.le_of_ble_eq_true rfl, Nat.le_of_ble_eq_true rfl, rfl⟩ ?_
          refine sa_run (S_J hS).1 ⟨by omega, by omega⟩ (fun z13 hz13 => ?_) rfl rfl
          have ez13 : z13 = oz_ b (i) := om_z hbN hsp (by rw [show fF g 71 = (N : Int) from S_f hS 0 (Nat.le_of_ble_eq_true rfl), show fA g 238 = sp from S_a hS 0 (Nat.le_of_ble_eq_true rfl)] at hz13; exact hz13)
          rw [ez13]
          obtain ⟨x, hx⟩ : ∃ x : Nat, oz_ b i = x := ⟨(oz_ b i).toNat, by omega⟩
          rw [hx]
          show t_X d 243 89 lv [oI ((x : Int)), pvR 196] g P
          refine t_0 omy_89 rfl (ld_a l0) ?_
          refine t_0 omy_90 rfl (ld_i l3) ?_
          refine t_3 omy_91 rfl (ar := ([pvR 196, oI (j)], [oI ((x : Int)), pvR 196])) (pcal_w (as := [oI (j)]) rfl rfl rfl oeo_196) ⟨by omega, Nat.le_of_ble_eq_true rfl, Nat.le_of_ble_eq_true rfl, rfl⟩ ?_
          refine sa_run (S_J hS).1 ⟨by omega, by omega⟩ (fun z14 hz14 => ?_) rfl rfl
          have ez14 : z14 = oz_ b (j) := om_z hbN hsp (by rw [show fF g 71 = (N : Int) from S_f hS 0 (Nat.le_of_ble_eq_true rfl), show fA g 238 = sp from S_a hS 0 (Nat.le_of_ble_eq_true rfl)] at hz14; exact hz14)
          rw [ez14]
          obtain ⟨y, hy⟩ : ∃ y : Nat, oz_ b j = y := ⟨(oz_ b j).toNat, by omega⟩
          rw [hy]
          show t_X d 243 94 lv [oI ((y : Int)), oI ((x : Int)), pvR 196] g P
          refine t_3 omy_94 rfl (ar := ([pvR 196, oI ((x : Int)), oI ((y : Int))], [])) (pcal_w (as := [oI ((y : Int)), oI ((x : Int))]) rfl rfl rfl oeo_196) ⟨by omega, Nat.le_of_ble_eq_true rfl, Nat.le_of_ble_eq_true rfl, rfl⟩ ?_
          have hob := oF_b (A := oA (oCk (oz_ b) ca cb cl.toNat) x y) (S := 0) hN
          refine omlL0 (by omega) hN hcl hca hcb hcl2 hbN hsp (p := (x : Int)) (q := (y : Int)) (fun g8 mb8 hA8 hS8 {lv8} u0 u1 u2 => oml_x (by omega) hN hA8 (x := x) (y := y) (by omega) (by omega) (fun g15 mb15 hS15 => ?_) hS8 u0 u1 u2) hS rfl rfl rfl
          show t_X d 243 97 lv [.inr (.inl (Int64.ofInt (oR (oCk (oz_ b) ca cb cl.toNat) N x y)))] g15 P
          refine t_5 omy_97 rfl rfl ?_
          have hfin := hyes _ (S_J hS15)
          unfold oAn at hfin
          rw [if_pos (by omega)] at hfin
          rw [if_pos ⟨by omega, by omega, by omega⟩, hx, hy] at hfin
          exact hfin
        · show t_X d 243 77 lv [] g P
          refine t_0 omy_77 rfl rfl ?_
          refine t_1 omy_80 rfl (pb_goto (pc := 80) (by decide)) ?_
          show t_X d 243 97 lv [.inr (.inl (xe_k 9223372036854775805))] g P
          refine t_5 omy_97 rfl rfl ?_
          have hfin := hyes _ (S_J hS)
          unfold oAn at hfin
          rw [if_pos (by omega)] at hfin
          rw [if_neg (by omega)] at hfin
          exact hfin
set_option maxHeartbeats 4000000 in
theorem omy_run {d : Nat} (hd : 6 ≤ d) {g0 : pH} {B : tC} (hB : tpR B (fA g0 211)) {cl : Int} {sp ca cb mb : tC} {nn : Int} (hcl : cF g0 196 22 = cl) (hca : fA g0 206 = ca) (hcb : fA g0 207 = cb) (hcl2 : 0 ≤ cl ∧ cl ≤ 24) (hS : mE g0 g0 nn sp mb) {i j what n tl : Int} (hi : -2147483648 ≤ i ∧ i ≤ 2147483647) (hj : -2147483648 ≤ j ∧ j ≤ 2147483647) (hw : -2147483648 ≤ what ∧ what ≤ 2147483647) (htl : cF g0 196 17 = tl) (ht : 0 ≤ tl ∧ tl ≤ 260) (hn : -2147483648 ≤ n ∧ n ≤ 2147483647) {P : Option pv × pH → Prop} (hR : ¬ (2 ≤ n ∧ n ≤ 12 ∧ n ≤ tl ∧ 0 ≤ what ∧ what ≤ 3) → P (some (.inr (.inl (xe_k 9223372036854775807))), g0)) (hno9 : ∀ N : Nat, n = N → (2 ≤ n ∧ n ≤ 12 ∧ n ≤ tl ∧ 0 ≤ what ∧ what ≤ 3) → ¬ oGd (toM g0) B N → ∀ g1 : pH, J_ jMo g0 g1 → P (some (.inr (.inl (xe_k 9223372036854775806))), g1)) (hyes : ∀ N : Nat, n = N → (2 ≤ n ∧ n ≤ 12 ∧ n ≤ tl ∧ 0 ≤ what ∧ what ≤ 3) → ∀ (M : Int32), oBt (toM g0) B N M → ∀ (sp : tC), oNu (fun j => M.toBitVec.getLsbD j) sp → ∀ g1 : pH, J_ jMo g0 g1 → P (some (.inr (.inl (oAn (oCk (oz_ (fun j => M.toBitVec.getLsbD j)) ca cb cl.toNat) N (fun j => M.toBitVec.getLsbD j) sp i j what))), g1)) {lv : List (Nat × pv)} (l0 : px_lg lv 0 = some (pvR 196)) (l1 : px_lg lv 1 = some (oI n)) (l2 : px_lg lv 2 = some (oI i)) (l3 : px_lg lv 3 = some (oI j)) (l4 : px_lg lv 4 = some (oI what)) : t_X d 243 0 lv [] g0 P := by
  refine t_0 omy_0 rfl (ld_i l1) ?_
  refine t_0 omy_1 rfl rfl ?_
  refine t_0 omy_2 rfl (pq_b (by decide)) ?_
  refine t_3 omy_4 rfl (ar := ([oI (n), oI 2, oI 12], [])) (pcal_s ⟨Or.inl rfl, rfl, Nat.le_of_ble_eq_true rfl⟩) ⟨by omega, Nat.le_of_ble_eq_true rfl, Nat.le_of_ble_eq_true rfl, rfl⟩ ?_
  refine in_run ⟨by omega, by omega⟩ ⟨by omega, by omega⟩ ⟨by omega, by omega⟩ rfl rfl rfl (fun t1 => ?_) (fun t1 => ?_)
  · show t_X d 243 7 lv [oI 1] g0 P
    refine tz_eq omy_7 (by decide) ⟨by omega, by omega⟩ (fun c2 => absurd c2 (by omega)) (fun c2 => ?_)
    show t_X d 243 10 lv [] g0 P
    refine t_0 omy_10 rfl (ld_i l4) ?_
    refine t_0 omy_12 rfl rfl ?_
    refine t_0 omy_13 rfl rfl ?_
    refine t_3 omy_14 rfl (ar := ([oI (what), oI 0, oI 3], [])) (pcal_s ⟨Or.inl rfl, rfl, Nat.le_of_ble_eq_true rfl⟩) ⟨by omega, Nat.le_of_ble_eq_true rfl, Nat.le_of_ble_eq_true rfl, rfl⟩ ?_
    refine in_run ⟨by omega, by omega⟩ ⟨by omega, by omega⟩ ⟨by omega, by omega⟩ rfl rfl rfl (fun t3 => ?_) (fun t3 => ?_)
    · show t_X d 243 17 lv [oI 1] g0 P
      refine tz_eq omy_17 (by decide) ⟨by omega, by omega⟩ (fun c4 => absurd c4 (by omega)) (fun c4 => ?_)
      show t_X d 243 20 lv [] g0 P
      refine t_0 omy_20 rfl (ld_i l1) ?_
      refine t_0 omy_21 rfl (ld_a l0) ?_
      refine t_0 omy_22 rfl (pq_cv oeo_196 rfl htl) ?_
      show t_X d 243 25 lv [oI (tl), oI (n)] g0 P
      refine tb_le omy_25 (by decide) ⟨by omega, by omega⟩ ⟨by omega, by omega⟩ (fun c5 => ?_) (fun c5 => ?_)
      · show t_X d 243 32 lv [] g0 P
        obtain ⟨N, rfl⟩ : ∃ N : Nat, n = N := ⟨n.toNat, by omega⟩
        have hN : N ≤ 12 := by omega
        refine t_0 omy_32 rfl (ld_a l0) ?_
        refine t_0 omy_33 rfl rfl ?_
        refine ts_f0 (by decide) omy_34 rfl oeo_196 hS wt_jMo_196_17 ogy_196_17 (by decide) ⟨by omega, by omega⟩ (fun g6 hS6 => ?_)
        replace hS6 : mE g0 g6 nn sp mb := hS6
        show t_X d 243 37 lv [] g6 P
        refine t_0 omy_37 rfl (ld_a l0) ?_
        refine t_0 omy_38 rfl (ld_i l1) ?_
        refine t_3 omy_39 rfl (ar := ([pvR 196, oI ((N : Int))], [])) (pcal_w (as := [oI ((N : Int))]) rfl rfl rfl oeo_196) ⟨by omega, Nat.le_of_ble_eq_true rfl, Nat.le_of_ble_eq_true rfl, rfl⟩ ?_
        refine omt_run (by omega) hN hB hS6 (fun hno g1 sp1 hS1 => ?_) (fun M hM g1 sp1 mb1 hsp hS1 => ?_) rfl rfl
        · show t_X d 243 42 lv [oI 0] g1 P
          refine tz_ne omy_42 (by decide) ⟨by omega, by omega⟩ (fun c7 => absurd c7 (by omega)) (fun c7 => ?_)
          show t_X d 243 45 lv [] g1 P
          refine t_0 omy_45 rfl rfl ?_
          refine t_5 omy_48 rfl rfl ?_
          exact hno9 N rfl (by omega) hno _ (S_J hS1)
        · show t_X d 243 42 lv [oI 1] g1 P
          refine tz_ne omy_42 (by decide) ⟨by omega, by omega⟩ (fun c8 => ?_) (fun c8 => absurd c8 (by omega))
          show t_X d 243 49 lv [] g1 P
          exact omyS (by omega) hN hcl hca hcb hcl2 hM.2.2 hsp hi hj (by omega) (hyes N rfl (by omega) M hM _ hsp) hS1 l0 l1 l2 l3 l4
      · show t_X d 243 28 lv [] g0 P
        refine t_0 omy_28 rfl rfl ?_
        refine t_5 omy_31 rfl rfl ?_
        exact hR (by omega)
    · show t_X d 243 17 lv [oI 0] g0 P
      refine tz_eq omy_17 (by decide) ⟨by omega, by omega⟩ (fun c9 => ?_) (fun c9 => absurd c9 (by omega))
      show t_X d 243 28 lv [] g0 P
      refine t_0 omy_28 rfl rfl ?_
      refine t_5 omy_31 rfl rfl ?_
      exact hR (by omega)
  · show t_X d 243 7 lv [oI 0] g0 P
    refine tz_eq omy_7 (by decide) ⟨by omega, by omega⟩ (fun c10 => ?_) (fun c10 => absurd c10 (by omega))
    show t_X d 243 28 lv [] g0 P
    refine t_0 omy_28 rfl rfl ?_
    refine t_5 omy_31 rfl rfl ?_
    exact hR (by omega)
