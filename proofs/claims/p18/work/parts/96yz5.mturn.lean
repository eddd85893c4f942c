/-! turning: the reference: what a row costs, the least noted (printed by wip/e2/x27.py) -/
theorem vcp_0 : xe_look (xc 179) 0 = some (.iconst 0, 1, 0, 0, 0) := by decide +kernel
theorem vcp_1 : xe_look (xc 179) 1 = some (.istore_n 3, 1, 0, 0, 0) := by decide +kernel
theorem vcp_2 : xe_look (xc 179) 2 = some (.iload_n 3, 1, 0, 0, 0) := by decide +kernel
theorem vcp_3 : xe_look (xc 179) 3 = some (.iload_n 2, 1, 0, 0, 0) := by decide +kernel
theorem vcp_4 : xe_look (xc 179) 4 = some (.if_icmp .ge 15, 3, 0, 0, 0) := by decide +kernel
theorem vcp_7 : xe_look (xc 179) 7 = some (.aload_n 1, 1, 0, 0, 0) := by decide +kernel
theorem vcp_8 : xe_look (xc 179) 8 = some (.iload_n 3, 1, 0, 0, 0) := by decide +kernel
theorem vcp_9 : xe_look (xc 179) 9 = some (.aload_n 0, 1, 0, 0, 0) := by decide +kernel
theorem vcp_10 : xe_look (xc 179) 10 = some (.iload_n 3, 1, 0, 0, 0) := by decide +kernel
theorem vcp_11 : xe_look (xc 179) 11 = some (.iaload, 1, 0, 0, 0) := by decide +kernel
theorem vcp_12 : xe_look (xc 179) 12 = some (.iastore, 1, 0, 0, 0) := by decide +kernel
theorem vcp_13 : xe_look (xc 179) 13 = some (.iinc 3 1, 3, 0, 0, 0) := by decide +kernel
theorem vcp_16 : xe_look (xc 179) 16 = some (.goto (-14), 3, 0, 0, 0) := by decide +kernel
theorem vcp_19 : xe_look (xc 179) 19 = some (.return_, 1, 0, 0, 0) := by decide +kernel
theorem vno_0 : xe_look (xc 224) 0 = some (.aload_n 0, 1, 0, 0, 0) := by decide +kernel
theorem vno_1 : xe_look (xc 224) 1 = some (.invokevirtual 456, 3, 0, 244, 1249) := by decide +kernel
theorem vno_4 : xe_look (xc 224) 4 = some (.lstore_n 1, 1, 0, 0, 0) := by decide +kernel
theorem vno_5 : xe_look (xc 224) 5 = some (.aload_n 0, 1, 0, 0, 0) := by decide +kernel
theorem vno_6 : xe_look (xc 224) 6 = some (.getfield 449, 3, 12, 62, 1239) := by decide +kernel
theorem vno_9 : xe_look (xc 224) 9 = some (.lconst 0, 1, 0, 0, 0) := by decide +kernel
theorem vno_10 : xe_look (xc 224) 10 = some (.lcmp, 1, 0, 0, 0) := by decide +kernel
theorem vno_11 : xe_look (xc 224) 11 = some (.ifCond .lt 13, 3, 0, 0, 0) := by decide +kernel
theorem vno_14 : xe_look (xc 224) 14 = some (.lload_n 1, 1, 0, 0, 0) := by decide +kernel
theorem vno_15 : xe_look (xc 224) 15 = some (.aload_n 0, 1, 0, 0, 0) := by decide +kernel
theorem vno_16 : xe_look (xc 224) 16 = some (.getfield 449, 3, 12, 62, 1239) := by decide +kernel
theorem vno_19 : xe_look (xc 224) 19 = some (.lcmp, 1, 0, 0, 0) := by decide +kernel
theorem vno_20 : xe_look (xc 224) 20 = some (.ifCond .lt 4, 3, 0, 0, 0) := by decide +kernel
theorem vno_23 : xe_look (xc 224) 23 = some (.return_, 1, 0, 0, 0) := by decide +kernel
theorem vno_24 : xe_look (xc 224) 24 = some (.aload_n 0, 1, 0, 0, 0) := by decide +kernel
theorem vno_25 : xe_look (xc 224) 25 = some (.lload_n 1, 1, 0, 0, 0) := by decide +kernel
theorem vno_26 : xe_look (xc 224) 26 = some (.putfield 449, 3, 12, 62, 1239) := by decide +kernel
theorem vno_29 : xe_look (xc 224) 29 = some (.aload_n 0, 1, 0, 0, 0) := by decide +kernel
theorem vno_30 : xe_look (xc 224) 30 = some (.getfield 113, 3, 12, 57, 1200) := by decide +kernel
theorem vno_33 : xe_look (xc 224) 33 = some (.aload_n 0, 1, 0, 0, 0) := by decide +kernel
theorem vno_34 : xe_look (xc 224) 34 = some (.getfield 116, 3, 12, 58, 1201) := by decide +kernel
theorem vno_37 : xe_look (xc 224) 37 = some (.bipush 7, 2, 0, 0, 0) := by decide +kernel
theorem vno_39 : xe_look (xc 224) 39 = some (.invokestatic 292, 3, 0, 179, 1228) := by decide +kernel
theorem vno_42 : xe_look (xc 224) 42 = some (.return_, 1, 0, 0, 0) := by decide +kernel
theorem vse_0 : xe_look (xc 244) 0 = some (.lconst 0, 1, 0, 0, 0) := by decide +kernel
theorem vse_1 : xe_look (xc 244) 1 = some (.lstore_n 1, 1, 0, 0, 0) := by decide +kernel
theorem vse_2 : xe_look (xc 244) 2 = some (.iconst 0, 1, 0, 0, 0) := by decide +kernel
theorem vse_3 : xe_look (xc 244) 3 = some (.istore_n 3, 1, 0, 0, 0) := by decide +kernel
theorem vse_4 : xe_look (xc 244) 4 = some (.iload_n 3, 1, 0, 0, 0) := by decide +kernel
theorem vse_5 : xe_look (xc 244) 5 = some (.bipush 8, 2, 0, 0, 0) := by decide +kernel
theorem vse_7 : xe_look (xc 244) 7 = some (.if_icmp .ge 88, 3, 0, 0, 0) := by decide +kernel
theorem vse_10 : xe_look (xc 244) 10 = some (.iload_n 3, 1, 0, 0, 0) := by decide +kernel
theorem vse_11 : xe_look (xc 244) 11 = some (.istore 4, 2, 0, 0, 0) := by decide +kernel
theorem vse_13 : xe_look (xc 244) 13 = some (.iconst 0, 1, 0, 0, 0) := by decide +kernel
theorem vse_14 : xe_look (xc 244) 14 = some (.istore 5, 2, 0, 0, 0) := by decide +kernel
theorem vse_16 : xe_look (xc 244) 16 = some (.iconst 0, 1, 0, 0, 0) := by decide +kernel
theorem vse_17 : xe_look (xc 244) 17 = some (.istore 6, 2, 0, 0, 0) := by decide +kernel
theorem vse_19 : xe_look (xc 244) 19 = some (.iload 6, 2, 0, 0, 0) := by decide +kernel
theorem vse_21 : xe_look (xc 244) 21 = some (.bipush 7, 2, 0, 0, 0) := by decide +kernel
theorem vse_23 : xe_look (xc 244) 23 = some (.if_icmp .ge 52, 3, 0, 0, 0) := by decide +kernel
theorem vse_26 : xe_look (xc 244) 26 = some (.aload_n 0, 1, 0, 0, 0) := by decide +kernel
theorem vse_27 : xe_look (xc 244) 27 = some (.getfield 444, 3, 12, 61, 1238) := by decide +kernel
theorem vse_30 : xe_look (xc 244) 30 = some (.iload 4, 2, 0, 0, 0) := by decide +kernel
theorem vse_32 : xe_look (xc 244) 32 = some (.invokestatic 187, 3, 0, 196, 1121) := by decide +kernel
theorem vse_35 : xe_look (xc 244) 35 = some (.ifCond .ne 40, 3, 0, 0, 0) := by decide +kernel
theorem vse_38 : xe_look (xc 244) 38 = some (.iload 5, 2, 0, 0, 0) := by decide +kernel
theorem vse_40 : xe_look (xc 244) 40 = some (.aload_n 0, 1, 0, 0, 0) := by decide +kernel
theorem vse_41 : xe_look (xc 244) 41 = some (.getfield 110, 3, 12, 56, 1199) := by decide +kernel
theorem vse_44 : xe_look (xc 244) 44 = some (.aload_n 0, 1, 0, 0, 0) := by decide +kernel
theorem vse_45 : xe_look (xc 244) 45 = some (.getfield 113, 3, 12, 57, 1200) := by decide +kernel
theorem vse_48 : xe_look (xc 244) 48 = some (.iload 6, 2, 0, 0, 0) := by decide +kernel
theorem vse_50 : xe_look (xc 244) 50 = some (.iaload, 1, 0, 0, 0) := by decide +kernel
theorem vse_51 : xe_look (xc 244) 51 = some (.iaload, 1, 0, 0, 0) := by decide +kernel
theorem vse_52 : xe_look (xc 244) 52 = some (.iadd, 1, 0, 0, 0) := by decide +kernel
theorem vse_53 : xe_look (xc 244) 53 = some (.istore 5, 2, 0, 0, 0) := by decide +kernel
theorem vse_55 : xe_look (xc 244) 55 = some (.iload 4, 2, 0, 0, 0) := by decide +kernel
theorem vse_57 : xe_look (xc 244) 57 = some (.aload_n 0, 1, 0, 0, 0) := by decide +kernel
theorem vse_58 : xe_look (xc 244) 58 = some (.getfield 113, 3, 12, 57, 1200) := by decide +kernel
theorem vse_61 : xe_look (xc 244) 61 = some (.iload 6, 2, 0, 0, 0) := by decide +kernel
theorem vse_63 : xe_look (xc 244) 63 = some (.iaload, 1, 0, 0, 0) := by decide +kernel
theorem vse_64 : xe_look (xc 244) 64 = some (.invokestatic 218, 3, 0, 172, 1240) := by decide +kernel
theorem vse_67 : xe_look (xc 244) 67 = some (.istore 4, 2, 0, 0, 0) := by decide +kernel
theorem vse_69 : xe_look (xc 244) 69 = some (.iinc 6 1, 3, 0, 0, 0) := by decide +kernel
theorem vse_72 : xe_look (xc 244) 72 = some (.goto (-53), 3, 0, 0, 0) := by decide +kernel
theorem vse_75 : xe_look (xc 244) 75 = some (.lload_n 1, 1, 0, 0, 0) := by decide +kernel
theorem vse_76 : xe_look (xc 244) 76 = some (.aload_n 0, 1, 0, 0, 0) := by decide +kernel
theorem vse_77 : xe_look (xc 244) 77 = some (.getfield 107, 3, 12, 55, 1187) := by decide +kernel
theorem vse_80 : xe_look (xc 244) 80 = some (.iload_n 3, 1, 0, 0, 0) := by decide +kernel
theorem vse_81 : xe_look (xc 244) 81 = some (.iaload, 1, 0, 0, 0) := by decide +kernel
theorem vse_82 : xe_look (xc 244) 82 = some (.i2l, 1, 0, 0, 0) := by decide +kernel
theorem vse_83 : xe_look (xc 244) 83 = some (.iload 5, 2, 0, 0, 0) := by decide +kernel
theorem vse_85 : xe_look (xc 244) 85 = some (.i2l, 1, 0, 0, 0) := by decide +kernel
theorem vse_86 : xe_look (xc 244) 86 = some (.lmul, 1, 0, 0, 0) := by decide +kernel
theorem vse_87 : xe_look (xc 244) 87 = some (.ladd, 1, 0, 0, 0) := by decide +kernel
theorem vse_88 : xe_look (xc 244) 88 = some (.lstore_n 1, 1, 0, 0, 0) := by decide +kernel
theorem vse_89 : xe_look (xc 244) 89 = some (.iinc 3 1, 3, 0, 0, 0) := by decide +kernel
theorem vse_92 : xe_look (xc 244) 92 = some (.goto (-88), 3, 0, 0, 0) := by decide +kernel
theorem vse_95 : xe_look (xc 244) 95 = some (.lload_n 1, 1, 0, 0, 0) := by decide +kernel
theorem vse_96 : xe_look (xc 244) 96 = some (.lreturn, 1, 0, 0, 0) := by decide +kernel
theorem pq_lf {d x y i k : Nat} {lv : List (Nat × pv)} {h : pH} {r : List pv} {v : Int64} (hk : eL[k]? = some (0, x)) (ht : xk_ty x y = .long) (hv : h.2.1 k y = v) : px_push eL d none (.getfield i) x y lv (pvR k :: r) h = some (.inr (.inl v) :: r) :=
  pget hk (by
    unfold pF
    rw [ht, hv])
theorem tw_lf {d μ pc x y z i k : Nat} {lv : List (Nat × pv)} {r : List pv} {W : Nat} {h0 g : pH} {P : Option pv × pH → Prop} {v : Int64} {lo hi : Int} (hq : xe_look (xc μ) pc = some (.putfield i, 3, x, y, z)) (hk : eL[k]? = some (0, x)) (ht : xk_ty x y = .long) (hJ : J_ W h0 g) (hW : W.testBit (cn k + y) = true) (hg : eG (cn k + y) = (lo, hi, [])) (he : lo ≤ v.toInt ∧ v.toInt ≤ hi) (hP : ∀ g1 : pH, J_ W h0 g1 → g1 = (g.1, pu g.2.1 k y v, g.2.2) → t_X d μ (pc + 3) lv r g1 P) : t_X d μ pc lv (.inr (.inl v) :: pvR k :: r) g P := by
  have hp : px_wf (.putfield i) eL d x y (.inr (.inl v) :: pvR k :: r) g = some (r, (g.1, pu g.2.1 k y v, g.2.2)) := by
    show px_put eL g x y (.inr (.inl v) :: .inr (.inr (some k)) :: r) = _
    unfold px_put
    dsimp only
    rw [if_pos hk, ht]
  have hw : w_f g (g.1, pu g.2.1 k y v, g.2.2) k y := ⟨fun k' y' hn => ⟨rfl, if_neg hn, rfl⟩, rfl⟩
  refine t_4 hq rfl hp (hP _ ⟨g_I_f hJ.1 hw hk ?_, w_f_M hw hJ.2 hW⟩ rfl)
  have e : pF (g.1, pu g.2.1 k y v, g.2.2) x k y = .inr (.inl v) := by
    unfold pF
    rw [ht]
    show (.inr (.inl (pu g.2.1 k y v k y)) : pv) = _
    rw [pu_rr]
  rw [e, hg]
  exact ⟨he.1, he.2, Or.inl rfl⟩
section LC
variable {d x y : Nat} {lv : List (Nat × pv)} {h : pH} {r : List pv}
theorem pq_lw {a b s : Int} (ha : -9000000000000000000 ≤ a ∧ a ≤ 9000000000000000000) (hb : -9000000000000000000 ≤ b ∧ b ≤ 9000000000000000000) (hs : (a < b ∧ s = -1) ∨ (a = b ∧ s = 0) ∨ (b < a ∧ s = 1)) : px_push eL d none .lcmp x y lv (.inr (.inl (Int64.ofInt b)) :: .inr (.inl (Int64.ofInt a)) :: r) h = some (oI s :: r) := by
  show some ((.inl (lg_cmp (Int64.ofInt a) (Int64.ofInt b)) : pv) :: r) = _
  have ea : (Int64.ofInt a).toInt = a := oLT (by omega) (by omega)
  have eb : (Int64.ofInt b).toInt = b := oLT (by omega) (by omega)
  unfold lg_cmp
  rcases hs with ⟨h1, rfl⟩ | ⟨h1, rfl⟩ | ⟨h1, rfl⟩
  · rw [if_neg (fun z => by have := Int64.lt_iff_toInt_lt.mp z; omega), if_neg (fun z => by have := congrArg Int64.toInt z; omega)]
    rfl
  · subst h1
    rw [if_neg (fun z => by have := Int64.lt_iff_toInt_lt.mp z; omega), if_pos rfl]
    rfl
  · rw [if_pos (Int64.lt_iff_toInt_lt.mpr (by omega))]
    rfl
theorem pq_lz {a s : Int} (ha : -9000000000000000000 ≤ a ∧ a ≤ 9000000000000000000) (hs : (a < 0 ∧ s = -1) ∨ (a = 0 ∧ s = 0) ∨ (0 < a ∧ s = 1)) : px_push eL d none .lcmp x y lv (.inr (.inl (Int64.ofNat 0)) :: .inr (.inl (Int64.ofInt a)) :: r) h = some (oI s :: r) := pq_lw ha (b := 0) (by omega) hs
theorem pq_lmi {a b : Int} : px_push eL d none .lmul x y lv (.inr (.inl (Int64.ofInt b)) :: .inr (.inl (Int64.ofInt a)) :: r) h = some (.inr (.inl (Int64.ofInt (a * b))) :: r) := by
  show some ((.inr (.inl (Int64.ofInt a * Int64.ofInt b)) : pv) :: r) = _
  rw [← Int64.ofInt_mul]
theorem pq_lai {a b : Int} : px_push eL d none .ladd x y lv (.inr (.inl (Int64.ofInt b)) :: .inr (.inl (Int64.ofInt a)) :: r) h = some (.inr (.inl (Int64.ofInt (a + b))) :: r) := by
  show some ((.inr (.inl (Int64.ofInt a + Int64.ofInt b)) : pv) :: r) = _
  rw [← Int64.ofInt_add]
end LC
theorem nRt_k {rt : Nat → Bool} {ρ : Nat → Nat} (hρ : ∀ i, ρ i < 8) {w : Nat} (hw : w < 8) : ∀ k : Nat, (∀ i, i < k → nRt rt (sS ρ i) w = true) → nRt rt (sS ρ k) w = !rt (cpW w (lSw ρ k)) := by
  intro k h
  cases k with
  | zero =>
    show nRt rt 1 w = !rt (cpW w 0)
    rw [nRt_1 hw, (cpW_0 w hw).2]
  | succ k =>
    show nRt rt (sS ρ k ||| 2 ^ lSw ρ (k + 1)) w = _
    rw [nRt_o (lS_l hρ (k + 1)), h k (by omega), Bool.true_and]
theorem iN_y {tk : Nat → Int} {rt : Nat → Bool} {ρ : Nat → Nat} {w k : Nat} (h : nRt rt (sS ρ k) w = true) : iN tk rt ρ w (k + 1) = iN tk rt ρ w k + tk (ρ k) := by
  show iN tk rt ρ w k + (if nRt rt (sS ρ k) w then tk (ρ k) else 0) = _
  rw [if_pos h]
theorem sS_l {ρ : Nat → Nat} (hρ : ∀ i, ρ i < 8) : ∀ k : Nat, sS ρ k < 256 := by
  intro k
  induction k with
  | zero => show 1 < 256; omega
  | succ k ih => exact Nat.or_lt_two_pow (n := 8) ih (Nat.pow_lt_pow_right (by decide) (lS_l hρ (k + 1)))
theorem rB_8 {f : Nat → Bool} {w : Nat} (hw : w < 8) : (rB f 8).testBit w = f w := by
  rw [rB_t, decide_eq_true hw, Bool.true_and]
theorem cK_b {h tk : Nat → Int} {rt : Nat → Bool} {ρ : Nat → Nat} (hh : ∀ w, 0 ≤ h w ∧ h w ≤ 99) (ht : ∀ t, 0 ≤ tk t ∧ tk t ≤ 99) : 0 ≤ cK h tk rt ρ 7 ∧ cK h tk rt ρ 7 ≤ 1000000 := by
  have := wS_b (x := fun w => iN tk rt ρ w 7) hh (fun w => by have := iN_b (rt := rt) (ρ := ρ) (w := w) ht 7; omega) 8
  rw [wS_c 7] at this
  omega
/-- what is noted: the least so far and its row -/
def stR (g : pH) (st : rO) : Prop := match st with
  | none => g.2.1 196 62 = Int64.ofInt (-1)
  | some p => g.2.1 196 62 = Int64.ofInt p.1 ∧ (0 ≤ p.1 ∧ p.1 ≤ 1000000) ∧ ∀ i, i < 7 → fA g 232 i = ((p.2.getD i 0 : Nat) : Int)
theorem stR_f {W : Nat} {g g1 : pH} {st : rO} (hM : f_M W g g1) (h1 : W.testBit (cn 196 + 62) = false) (h2 : W.testBit (cn 232) = false) (h : stR g st) : stR g1 st := by
  have e := (hM.1 196 62 h1).2.1
  cases st with
  | none => exact e.trans h
  | some p => exact ⟨e.trans h.1, h.2.1, fun i hi => (congrFun (fA_M hM h2) i).trans (h.2.2 i hi)⟩
def w232 : Nat := 2 ^ cn 232
def wN9 : Nat := 2 ^ (cn 196 + 62) ||| 2 ^ cn 232
def wR9 : Nat := 2 ^ cn 231 ||| 2 ^ cn 233 ||| 2 ^ cn 234
def wS9 : Nat := wN9 ||| wR9
theorem wN_n : (w232.testBit (cn 231) = false ∧ w232.testBit (cn 196 + 62) = false) ∧ (w232 &&& wN9 = w232 ∧ wN9 &&& wS9 = wN9 ∧ wR9 &&& wS9 = wR9) ∧ (wN9.testBit (cn 196 + 61) = false ∧ wN9.testBit (cn 229) = false ∧ wN9.testBit (cn 230) = false ∧ wN9.testBit (cn 231) = false ∧ wN9.testBit (cn 233) = false ∧ wN9.testBit (cn 234) = false) ∧ (wR9.testBit (cn 196 + 62) = false ∧ wR9.testBit (cn 232) = false) ∧ (wS9.testBit (cn 196 + 61) = false ∧ wS9.testBit (cn 229) = false ∧ wS9.testBit (cn 230) = false) ∧ (2 ^ (cn 196 + 62)).testBit (cn 231) = false ∧ 2 ^ (cn 196 + 62) &&& wN9 = 2 ^ (cn 196 + 62) := by decide +kernel
theorem yqeo_196 : eL[196]? = some (0, 12) := by decide +kernel
theorem yqgu_232 : eG (cn 232) = ((-2147483648), 2147483647, []) := by decide +kernel
theorem yqgy_196_62 : eG (cn 196 + 62) = ((-9223372036854775808), 9223372036854775807, []) := by decide +kernel
theorem yqch_196_55 : (eG (cn 196 + 55)).2.2 = [230] := by decide +kernel
theorem yqcq_196_55 {d i : Nat} {lv : List (Nat × pv)} {r : List pv} {g : pH} (hG : g_I eG g) : px_push eL d none (.getfield i) 12 55 lv (pvR 196 :: r) g = some (pvR 229 :: r) := pget yqeo_196 (gI_r (r := 229) hG yqeo_196 (Nat.le_of_ble_eq_true rfl) (y := 55) rfl yqch_196_55)
theorem yqch_196_56 : (eG (cn 196 + 56)).2.2 = [231] := by decide +kernel
theorem yqcq_196_56 {d i : Nat} {lv : List (Nat × pv)} {r : List pv} {g : pH} (hG : g_I eG g) : px_push eL d none (.getfield i) 12 56 lv (pvR 196 :: r) g = some (pvR 230 :: r) := pget yqeo_196 (gI_r (r := 230) hG yqeo_196 (Nat.le_of_ble_eq_true rfl) (y := 56) rfl yqch_196_56)
theorem yqch_196_57 : (eG (cn 196 + 57)).2.2 = [232] := by decide +kernel
theorem yqcq_196_57 {d i : Nat} {lv : List (Nat × pv)} {r : List pv} {g : pH} (hG : g_I eG g) : px_push eL d none (.getfield i) 12 57 lv (pvR 196 :: r) g = some (pvR 231 :: r) := pget yqeo_196 (gI_r (r := 231) hG yqeo_196 (Nat.le_of_ble_eq_true rfl) (y := 57) rfl yqch_196_57)
theorem yqch_196_58 : (eG (cn 196 + 58)).2.2 = [233] := by decide +kernel
theorem yqcq_196_58 {d i : Nat} {lv : List (Nat × pv)} {r : List pv} {g : pH} (hG : g_I eG g) : px_push eL d none (.getfield i) 12 58 lv (pvR 196 :: r) g = some (pvR 232 :: r) := pget yqeo_196 (gI_r (r := 232) hG yqeo_196 (Nat.le_of_ble_eq_true rfl) (y := 58) rfl yqch_196_58)
theorem yqez_229 : eL[229]? = some (1, 8) := by decide +kernel
theorem yqez_230 : eL[230]? = some (1, 8) := by decide +kernel
theorem yqez_231 : eL[231]? = some (1, 7) := by decide +kernel
theorem yqez_232 : eL[232]? = some (1, 7) := by decide +kernel
theorem wu_w232_232 : w232.testBit (cn 232) = true := by decide +kernel
theorem vse_in {h tk : Nat → Int} {rt : Nat → Bool} (hh : ∀ w, 0 ≤ h w ∧ h w ≤ 99) (ht : ∀ t, 0 ≤ tk t ∧ tk t ≤ 99) {ρ : Nat → Nat} (hρ : ∀ i, 1 ≤ ρ i ∧ ρ i < 8) {g : pH} (hG : g_I eG g) (hR : cF g 196 61 = ((rB rt 8 : Nat) : Int)) (hT : ∀ j, 1 ≤ j → j < 8 → fA g 230 j = tk j) (hH : ∀ j, j < 8 → fA g 229 j = h j) (hW : ∀ i, i < 7 → fA g 231 i = ((ρ i : Nat) : Int)) {d : Nat} (hd : 1 ≤ d) {P : Option pv × pH → Prop} {w : Nat} (hw : w < 8) {L : Int64} (hP : ∀ lv : List (Nat × pv), px_lg lv 0 = some (pvR 196) → px_lg lv 1 = some (.inr (.inl L)) → px_lg lv 3 = some (oI (w : Int)) → px_lg lv 5 = some (oI (iN tk rt ρ w 7)) → t_X d 244 75 lv [] g P) : ∀ (n k : Nat) (lv : List (Nat × pv)), 7 - k ≤ n → k ≤ 7 → (∀ i, i < k → nRt rt (sS ρ i) w = true) → px_lg lv 0 = some (pvR 196) → px_lg lv 1 = some (.inr (.inl L)) → px_lg lv 3 = some (oI (w : Int)) → px_lg lv 4 = some (oI ((cpW w (lSw ρ k) : Nat) : Int)) → px_lg lv 5 = some (oI (iN tk rt ρ w k)) → px_lg lv 6 = some (oI (k : Int)) → t_X d 244 19 lv [] g P := by
  have hρ8 : ∀ i, ρ i < 8 := fun i => (hρ i).2
  intro n
  induction n with
  | zero =>
    intro k lv hr hk2 hN l0 l1 l3 l4 l5 l6
    refine t_0 vse_19 rfl (ld_i l6) ?_
    refine t_0 vse_21 rfl (pq_b (by decide)) ?_
    refine tb_ge vse_23 (by decide) ⟨by omega, by omega⟩ ⟨by omega, by omega⟩ (fun c1 => ?_) (fun c1 => absurd c1 (by omega))
    show t_X d 244 75 lv [] g P
    obtain rfl : k = 7 := by omega
    exact hP _ l0 l1 l3 l5
  | succ n ih =>
    intro k lv hr hk2 hN l0 l1 l3 l4 l5 l6
    by_cases hk : k < 7
    · have rk := hρ k
      refine t_0 vse_19 rfl (ld_i l6) ?_
      refine t_0 vse_21 rfl (pq_b (by decide)) ?_
      refine tb_ge vse_23 (by decide) ⟨by omega, by omega⟩ ⟨by omega, by omega⟩ (fun c1 => absurd c1 (by omega)) (fun c1 => ?_)
      show t_X d 244 26 lv [] g P
      refine t_0 vse_26 rfl (ld_a l0) ?_
      refine t_0 vse_27 rfl (pq_cv yqeo_196 rfl hR) ?_
      show t_X d 244 30 lv [oI (((rB rt 8 : Nat) : Int))] g P
      refine t_0 vse_30 rfl (ld_i l4) ?_
      refine t_3 vse_32 rfl (ar := ([oI (((rB rt 8 : Nat) : Int)), oI (((cpW w (lSw ρ k) : Nat) : Int))], [])) (pcal_s ⟨Or.inl rfl, rfl, Nat.le_of_ble_eq_true rfl⟩) ⟨by omega, Nat.le_of_ble_eq_true rfl, Nat.le_of_ble_eq_true rfl, rfl⟩ ?_
      refine vhs_run (rB_l 8) (cpW_l w hw _ (lS_l hρ8 k)) (fun q0 => ?_) (fun q0 => ?_) rfl rfl
      · show t_X d 244 35 lv [oI 1] g P
        refine tz_ne vse_35 (by decide) ⟨by omega, by omega⟩ (fun c2 => ?_) (fun c2 => absurd c2 (by omega))
        show t_X d 244 75 lv [] g P
        have hz : nRt rt (sS ρ k) w = false := by rw [nRt_k hρ8 hw k hN, ← rB_8 (f := rt) (cpW_l w hw _ (lS_l hρ8 k)), q0]; rfl
        exact hP _ l0 l1 l3 (by rw [iN_r hρ8 hk2 hz]; exact l5)
      · show t_X d 244 35 lv [oI 0] g P
        refine tz_ne vse_35 (by decide) ⟨by omega, by omega⟩ (fun c3 => absurd c3 (by omega)) (fun c3 => ?_)
        show t_X d 244 38 lv [] g P
        refine t_0 vse_38 rfl (ld_i l5) ?_
        refine t_0 vse_40 rfl (ld_a l0) ?_
        refine t_0 vse_41 rfl (yqcq_196_56 hG) ?_
        show t_X d 244 44 lv [pvR 230, oI (iN tk rt ρ w k)] g P
        refine t_0 vse_44 rfl (ld_a l0) ?_
        refine t_0 vse_45 rfl (yqcq_196_57 hG) ?_
        show t_X d 244 48 lv [pvR 231, pvR 230, oI (iN tk rt ρ w k)] g P
        refine t_0 vse_48 rfl (ld_i l6) ?_
        refine t_0 vse_50 rfl (pq_iw yqez_231 rfl ⟨by omega, by omega⟩ (hW k hk)) ?_
        show t_X d 244 51 lv [oI (((ρ k : Nat) : Int)), pvR 230, oI (iN tk rt ρ w k)] g P
        refine t_0 vse_51 rfl (pq_iw yqez_230 rfl ⟨by omega, by omega⟩ (hT _ (hρ k).1 (hρ k).2)) ?_
        show t_X d 244 52 lv [oI (tk (ρ k)), oI (iN tk rt ρ w k)] g P
        refine t_0 vse_52 rfl pq_add ?_
        refine t_2 vse_53 rfl (w := (px_s1 lv 5 (oI ((iN tk rt ρ w k) + (tk (ρ k)))), [])) rfl ?_
        replace l0 : px_lg (px_s1 lv 5 (oI ((iN tk rt ρ w k) + (tk (ρ k))))) 0 = some (pvR 196) := s1_ne (by decide) (fun _ => rfl) l0
        replace l1 : px_lg (px_s1 lv 5 (oI ((iN tk rt ρ w k) + (tk (ρ k))))) 1 = some (.inr (.inl (L))) := s1_ne (by decide) (fun z => absurd z (by decide)) l1
        replace l3 : px_lg (px_s1 lv 5 (oI ((iN tk rt ρ w k) + (tk (ρ k))))) 3 = some (oI ((w : Int))) := s1_ne (by decide) (fun _ => rfl) l3
        replace l4 : px_lg (px_s1 lv 5 (oI ((iN tk rt ρ w k) + (tk (ρ k))))) 4 = some (oI (((cpW w (lSw ρ k) : Nat) : Int))) := s1_ne (by decide) (fun _ => rfl) l4
        replace l6 : px_lg (px_s1 lv 5 (oI ((iN tk rt ρ w k) + (tk (ρ k))))) 6 = some (oI ((k : Int))) := s1_ne (by decide) (fun _ => rfl) l6
        have l5 : px_lg (px_s1 lv 5 (oI ((iN tk rt ρ w k) + (tk (ρ k))))) 5 = some (oI ((iN tk rt ρ w k) + (tk (ρ k)))) := s1_eq
        generalize px_s1 lv 5 (oI ((iN tk rt ρ w k) + (tk (ρ k)))) = lv4 at l0 l1 l3 l4 l6 l5 ⊢
        show t_X d 244 55 lv4 [] g P
        refine t_0 vse_55 rfl (ld_i l4) ?_
        refine t_0 vse_57 rfl (ld_a l0) ?_
        refine t_0 vse_58 rfl (yqcq_196_57 hG) ?_
        show t_X d 244 61 lv4 [pvR 231, oI (((cpW w (lSw ρ k) : Nat) : Int))] g P
        refine t_0 vse_61 rfl (ld_i l6) ?_
        refine t_0 vse_63 rfl (pq_iw yqez_231 rfl ⟨by omega, by omega⟩ (hW k hk)) ?_
        show t_X d 244 64 lv4 [oI (((ρ k : Nat) : Int)), oI (((cpW w (lSw ρ k) : Nat) : Int))] g P
        refine t_3 vse_64 rfl (ar := ([oI (((cpW w (lSw ρ k) : Nat) : Int)), oI (((ρ k : Nat) : Int))], [])) (pcal_s ⟨Or.inl rfl, rfl, Nat.le_of_ble_eq_true rfl⟩) ⟨by omega, Nat.le_of_ble_eq_true rfl, Nat.le_of_ble_eq_true rfl, rfl⟩ ?_
        refine vbo_run (cpW_l w hw _ (lS_l hρ8 k)) (hρ8 k) ?_ rfl rfl
        show t_X d 244 67 lv4 [oI (((cpW (cpW w (lSw ρ k)) (ρ k) : Nat) : Int))] g P
        refine t_2 vse_67 rfl (w := (px_s1 lv4 4 (oI (((cpW (cpW w (lSw ρ k)) (ρ k) : Nat) : Int))), [])) rfl ?_
        replace l0 : px_lg (px_s1 lv4 4 (oI (((cpW (cpW w (lSw ρ k)) (ρ k) : Nat) : Int)))) 0 = some (pvR 196) := s1_ne (by decide) (fun _ => rfl) l0
        replace l1 : px_lg (px_s1 lv4 4 (oI (((cpW (cpW w (lSw ρ k)) (ρ k) : Nat) : Int)))) 1 = some (.inr (.inl (L))) := s1_ne (by decide) (fun z => absurd z (by decide)) l1
        replace l3 : px_lg (px_s1 lv4 4 (oI (((cpW (cpW w (lSw ρ k)) (ρ k) : Nat) : Int)))) 3 = some (oI ((w : Int))) := s1_ne (by decide) (fun _ => rfl) l3
        replace l6 : px_lg (px_s1 lv4 4 (oI (((cpW (cpW w (lSw ρ k)) (ρ k) : Nat) : Int)))) 6 = some (oI ((k : Int))) := s1_ne (by decide) (fun _ => rfl) l6
        replace l5 : px_lg (px_s1 lv4 4 (oI (((cpW (cpW w (lSw ρ k)) (ρ k) : Nat) : Int)))) 5 = some (oI ((iN tk rt ρ w k) + (tk (ρ k)))) := s1_ne (by decide) (fun _ => rfl) l5
        have l4 : px_lg (px_s1 lv4 4 (oI (((cpW (cpW w (lSw ρ k)) (ρ k) : Nat) : Int)))) 4 = some (oI (((cpW (cpW w (lSw ρ k)) (ρ k) : Nat) : Int))) := s1_eq
        generalize px_s1 lv4 4 (oI (((cpW (cpW w (lSw ρ k)) (ρ k) : Nat) : Int))) = lv5 at l0 l1 l3 l6 l5 l4 ⊢
        show t_X d 244 69 lv5 [] g P
        refine t_2 vse_69 rfl (w := (px_s1 lv5 6 (oI ((k : Int) + 1)), [])) (pq_inc l6 (by decide)) ?_
        replace l0 : px_lg (px_s1 lv5 6 (oI ((k : Int) + 1))) 0 = some (pvR 196) := s1_ne (by decide) (fun _ => rfl) l0
        replace l1 : px_lg (px_s1 lv5 6 (oI ((k : Int) + 1))) 1 = some (.inr (.inl (L))) := s1_ne (by decide) (fun z => absurd z (by decide)) l1
        replace l3 : px_lg (px_s1 lv5 6 (oI ((k : Int) + 1))) 3 = some (oI ((w : Int))) := s1_ne (by decide) (fun _ => rfl) l3
        replace l5 : px_lg (px_s1 lv5 6 (oI ((k : Int) + 1))) 5 = some (oI ((iN tk rt ρ w k) + (tk (ρ k)))) := s1_ne (by decide) (fun _ => rfl) l5
        replace l4 : px_lg (px_s1 lv5 6 (oI ((k : Int) + 1))) 4 = some (oI (((cpW (cpW w (lSw ρ k)) (ρ k) : Nat) : Int))) := s1_ne (by decide) (fun _ => rfl) l4
        have l6 : px_lg (px_s1 lv5 6 (oI ((k : Int) + 1))) 6 = some (oI ((k : Int) + 1)) := s1_eq
        generalize px_s1 lv5 6 (oI ((k : Int) + 1)) = lv6 at l0 l1 l3 l5 l4 l6 ⊢
        show t_X d 244 72 lv6 [] g P
        refine t_1 vse_72 rfl (pb_goto (pc := 72) (by decide)) ?_
        show t_X d 244 19 lv6 [] g P
        have hz : nRt rt (sS ρ k) w = true := by rw [nRt_k hρ8 hw k hN, ← rB_8 (f := rt) (cpW_l w hw _ (lS_l hρ8 k)), q0]; rfl
        exact ih (k + 1) _ (by omega) (by omega) (fun i hi => by rcases Nat.lt_or_ge i k with z | z; exact hN i z; rw [show i = k by omega]; exact hz) l0 l1 l3 (by rw [show cpW w (lSw ρ (k + 1)) = cpW (cpW w (lSw ρ k)) (ρ k) from (cpW_a w hw _ (lS_l hρ8 k) _ (hρ8 k)).symm]; exact l4) (by rw [iN_y hz]; exact l5) l6
    · skip
      refine t_0 vse_19 rfl (ld_i l6) ?_
      refine t_0 vse_21 rfl (pq_b (by decide)) ?_
      refine tb_ge vse_23 (by decide) ⟨by omega, by omega⟩ ⟨by omega, by omega⟩ (fun c1 => ?_) (fun c1 => absurd c1 (by omega))
      show t_X d 244 75 lv [] g P
      obtain rfl : k = 7 := by omega
      exact hP _ l0 l1 l3 l5
theorem vse_loop {h tk : Nat → Int} {rt : Nat → Bool} (hh : ∀ w, 0 ≤ h w ∧ h w ≤ 99) (ht : ∀ t, 0 ≤ tk t ∧ tk t ≤ 99) {ρ : Nat → Nat} (hρ : ∀ i, 1 ≤ ρ i ∧ ρ i < 8) {g : pH} (hG : g_I eG g) (hR : cF g 196 61 = ((rB rt 8 : Nat) : Int)) (hT : ∀ j, 1 ≤ j → j < 8 → fA g 230 j = tk j) (hH : ∀ j, j < 8 → fA g 229 j = h j) (hW : ∀ i, i < 7 → fA g 231 i = ((ρ i : Nat) : Int)) {d : Nat} (hd : 1 ≤ d) {P : Option pv × pH → Prop} (hP : P (some (.inr (.inl (Int64.ofInt (cK h tk rt ρ 7)))), g)) : ∀ (n w : Nat) (lv : List (Nat × pv)), 8 - w ≤ n → w ≤ 8 → px_lg lv 0 = some (pvR 196) → px_lg lv 1 = some (.inr (.inl (Int64.ofInt (wSm h (fun w => iN tk rt ρ w 7) w)))) → px_lg lv 3 = some (oI (w : Int)) → t_X d 244 4 lv [] g P := by
  intro n
  induction n with
  | zero =>
    intro w lv hr hw2 l0 l1 l3
    refine t_0 vse_4 rfl (ld_i l3) ?_
    refine t_0 vse_5 rfl (pq_b (by decide)) ?_
    refine tb_ge vse_7 (by decide) ⟨by omega, by omega⟩ ⟨by omega, by omega⟩ (fun c1 => ?_) (fun c1 => absurd c1 (by omega))
    show t_X d 244 95 lv [] g P
    refine t_0 vse_95 rfl (ld_l l1) ?_
    refine t_5 vse_96 rfl rfl ?_
    obtain rfl : w = 8 := by omega
    rw [wS_c 7]
    exact hP
  | succ n ih =>
    intro w lv hr hw2 l0 l1 l3
    by_cases hw : w < 8
    · have hb := hh w
      refine t_0 vse_4 rfl (ld_i l3) ?_
      refine t_0 vse_5 rfl (pq_b (by decide)) ?_
      refine tb_ge vse_7 (by decide) ⟨by omega, by omega⟩ ⟨by omega, by omega⟩ (fun c1 => absurd c1 (by omega)) (fun c1 => ?_)
      show t_X d 244 10 lv [] g P
      refine t_0 vse_10 rfl (ld_i l3) ?_
      refine t_2 vse_11 rfl (w := (px_s1 lv 4 (oI ((w : Int))), [])) rfl ?_
      replace l0 : px_lg (px_s1 lv 4 (oI ((w : Int)))) 0 = some (pvR 196) := s1_ne (by decide) (fun _ => rfl) l0
      replace l1 : px_lg (px_s1 lv 4 (oI ((w : Int)))) 1 = some (.inr (.inl (Int64.ofInt (wSm h (fun w => iN tk rt ρ w 7) w)))) := s1_ne (by decide) (fun z => absurd z (by decide)) l1
      replace l3 : px_lg (px_s1 lv 4 (oI ((w : Int)))) 3 = some (oI ((w : Int))) := s1_ne (by decide) (fun _ => rfl) l3
      have l4 : px_lg (px_s1 lv 4 (oI ((w : Int)))) 4 = some (oI ((w : Int))) := s1_eq
      generalize px_s1 lv 4 (oI ((w : Int))) = lv2 at l0 l1 l3 l4 ⊢
      show t_X d 244 13 lv2 [] g P
      refine t_0 vse_13 rfl rfl ?_
      refine t_2 vse_14 rfl (w := (px_s1 lv2 5 (oI 0), [])) rfl ?_
      replace l0 : px_lg (px_s1 lv2 5 (oI 0)) 0 = some (pvR 196) := s1_ne (by decide) (fun _ => rfl) l0
      replace l1 : px_lg (px_s1 lv2 5 (oI 0)) 1 = some (.inr (.inl (Int64.ofInt (wSm h (fun w => iN tk rt ρ w 7) w)))) := s1_ne (by decide) (fun z => absurd z (by decide)) l1
      replace l3 : px_lg (px_s1 lv2 5 (oI 0)) 3 = some (oI ((w : Int))) := s1_ne (by decide) (fun _ => rfl) l3
      replace l4 : px_lg (px_s1 lv2 5 (oI 0)) 4 = some (oI ((w : Int))) := s1_ne (by decide) (fun _ => rfl) l4
      have l5 : px_lg (px_s1 lv2 5 (oI 0)) 5 = some (oI 0) := s1_eq
      generalize px_s1 lv2 5 (oI 0) = lv3 at l0 l1 l3 l4 l5 ⊢
      show t_X d 244 16 lv3 [] g P
      refine t_0 vse_16 rfl rfl ?_
      refine t_2 vse_17 rfl (w := (px_s1 lv3 6 (oI 0), [])) rfl ?_
      replace l0 : px_lg (px_s1 lv3 6 (oI 0)) 0 = some (pvR 196) := s1_ne (by decide) (fun _ => rfl) l0
      replace l1 : px_lg (px_s1 lv3 6 (oI 0)) 1 = some (.inr (.inl (Int64.ofInt (wSm h (fun w => iN tk rt ρ w 7) w)))) := s1_ne (by decide) (fun z => absurd z (by decide)) l1
      replace l3 : px_lg (px_s1 lv3 6 (oI 0)) 3 = some (oI ((w : Int))) := s1_ne (by decide) (fun _ => rfl) l3
      replace l4 : px_lg (px_s1 lv3 6 (oI 0)) 4 = some (oI ((w : Int))) := s1_ne (by decide) (fun _ => rfl) l4
      replace l5 : px_lg (px_s1 lv3 6 (oI 0)) 5 = some (oI 0) := s1_ne (by decide) (fun _ => rfl) l5
      have l6 : px_lg (px_s1 lv3 6 (oI 0)) 6 = some (oI 0) := s1_eq
      generalize px_s1 lv3 6 (oI 0) = lv4 at l0 l1 l3 l4 l5 l6 ⊢
      show t_X d 244 19 lv4 [] g P
      refine vse_in hh ht hρ hG hR hT hH hW hd hw (fun lv9 l0 l1 l3 l5 => ?_) 7 0 _ (by omega) (by omega) (fun i hi => absurd hi (Nat.not_lt_zero i)) l0 l1 l3 (by rw [show cpW w (lSw ρ 0) = w from (cpW_0 w hw).2]; exact l4) l5 l6
      have ib := iN_b (rt := rt) (ρ := ρ) (w := w) ht 7
      show t_X d 244 75 lv9 [] g P
      refine t_0 vse_75 rfl (ld_l l1) ?_
      refine t_0 vse_76 rfl (ld_a l0) ?_
      refine t_0 vse_77 rfl (yqcq_196_55 hG) ?_
      show t_X d 244 80 lv9 [pvR 229, .inr (.inl (Int64.ofInt (wSm h (fun w => iN tk rt ρ w 7) w)))] g P
      refine t_0 vse_80 rfl (ld_i l3) ?_
      refine t_0 vse_81 rfl (pq_iw yqez_229 rfl ⟨by omega, by omega⟩ (hH w hw)) ?_
      show t_X d 244 82 lv9 [oI (h w), .inr (.inl (Int64.ofInt (wSm h (fun w => iN tk rt ρ w 7) w)))] g P
      refine t_0 vse_82 rfl (pq_il ⟨by omega, by omega⟩) ?_
      refine t_0 vse_83 rfl (ld_i l5) ?_
      refine t_0 vse_85 rfl (pq_il ⟨by omega, by omega⟩) ?_
      refine t_0 vse_86 rfl pq_lmi ?_
      refine t_0 vse_87 rfl pq_lai ?_
      refine t_2 vse_88 rfl (w := (px_s2 lv9 1 (.inr (.inl (Int64.ofInt (wSm h (fun w => iN tk rt ρ w 7) w + h w * iN tk rt ρ w 7)))), [])) rfl ?_
      replace l0 : px_lg (px_s2 lv9 1 (.inr (.inl (Int64.ofInt (wSm h (fun w => iN tk rt ρ w 7) w + h w * iN tk rt ρ w 7))))) 0 = some (pvR 196) := s2_ne (by decide) (fun _ => rfl) l0
      replace l3 : px_lg (px_s2 lv9 1 (.inr (.inl (Int64.ofInt (wSm h (fun w => iN tk rt ρ w 7) w + h w * iN tk rt ρ w 7))))) 3 = some (oI ((w : Int))) := s2_ne (by decide) (fun _ => rfl) l3
      replace l5 : px_lg (px_s2 lv9 1 (.inr (.inl (Int64.ofInt (wSm h (fun w => iN tk rt ρ w 7) w + h w * iN tk rt ρ w 7))))) 5 = some (oI (iN tk rt ρ w 7)) := s2_ne (by decide) (fun _ => rfl) l5
      have l1 : px_lg (px_s2 lv9 1 (.inr (.inl (Int64.ofInt (wSm h (fun w => iN tk rt ρ w 7) w + h w * iN tk rt ρ w 7))))) 1 = some (.inr (.inl (Int64.ofInt (wSm h (fun w => iN tk rt ρ w 7) w + h w * iN tk rt ρ w 7)))) := s2_eq
      generalize px_s2 lv9 1 (.inr (.inl (Int64.ofInt (wSm h (fun w => iN tk rt ρ w 7) w + h w * iN tk rt ρ w 7)))) = lv5 at l0 l3 l5 l1 ⊢
      show t_X d 244 89 lv5 [] g P
      refine t_2 vse_89 rfl (w := (px_s1 lv5 3 (oI ((w : Int) + 1)), [])) (pq_inc l3 (by decide)) ?_
      replace l0 : px_lg (px_s1 lv5 3 (oI ((w : Int) + 1))) 0 = some (pvR 196) := s1_ne (by decide) (fun _ => rfl) l0
      replace l5 : px_lg (px_s1 lv5 3 (oI ((w : Int) + 1))) 5 = some (oI (iN tk rt ρ w 7)) := s1_ne (by decide) (fun _ => rfl) l5
      replace l1 : px_lg (px_s1 lv5 3 (oI ((w : Int) + 1))) 1 = some (.inr (.inl (Int64.ofInt (wSm h (fun w => iN tk rt ρ w 7) w + h w * iN tk rt ρ w 7)))) := s1_ne (by decide) (fun z => absurd z (by decide)) l1
      have l3 : px_lg (px_s1 lv5 3 (oI ((w : Int) + 1))) 3 = some (oI ((w : Int) + 1)) := s1_eq
      generalize px_s1 lv5 3 (oI ((w : Int) + 1)) = lv6 at l0 l5 l1 l3 ⊢
      show t_X d 244 92 lv6 [] g P
      refine t_1 vse_92 rfl (pb_goto (pc := 92) (by decide)) ?_
      show t_X d 244 4 lv6 [] g P
      exact ih (w + 1) _ (by omega) (by omega) l0 l1 l3
    · skip
      refine t_0 vse_4 rfl (ld_i l3) ?_
      refine t_0 vse_5 rfl (pq_b (by decide)) ?_
      refine tb_ge vse_7 (by decide) ⟨by omega, by omega⟩ ⟨by omega, by omega⟩ (fun c1 => ?_) (fun c1 => absurd c1 (by omega))
      show t_X d 244 95 lv [] g P
      refine t_0 vse_95 rfl (ld_l l1) ?_
      refine t_5 vse_96 rfl rfl ?_
      obtain rfl : w = 8 := by omega
      rw [wS_c 7]
      exact hP
theorem vse_run {h tk : Nat → Int} {rt : Nat → Bool} (hh : ∀ w, 0 ≤ h w ∧ h w ≤ 99) (ht : ∀ t, 0 ≤ tk t ∧ tk t ≤ 99) {ρ : Nat → Nat} (hρ : ∀ i, 1 ≤ ρ i ∧ ρ i < 8) {g : pH} (hG : g_I eG g) (hR : cF g 196 61 = ((rB rt 8 : Nat) : Int)) (hT : ∀ j, 1 ≤ j → j < 8 → fA g 230 j = tk j) (hH : ∀ j, j < 8 → fA g 229 j = h j) (hW : ∀ i, i < 7 → fA g 231 i = ((ρ i : Nat) : Int)) {d : Nat} (hd : 1 ≤ d) {P : Option pv × pH → Prop} (hP : P (some (.inr (.inl (Int64.ofInt (cK h tk rt ρ 7)))), g)) {lv : List (Nat × pv)} (l0 : px_lg lv 0 = some (pvR 196)) : t_X d 244 0 lv [] g P := by
  refine t_0 vse_0 rfl rfl ?_
  refine t_2 vse_1 rfl (w := (px_s2 lv 1 (.inr (.inl (Int64.ofNat 0))), [])) rfl ?_
  replace l0 : px_lg (px_s2 lv 1 (.inr (.inl (Int64.ofNat 0)))) 0 = some (pvR 196) := s2_ne (by decide) (fun _ => rfl) l0
  have l1 : px_lg (px_s2 lv 1 (.inr (.inl (Int64.ofNat 0)))) 1 = some (.inr (.inl (Int64.ofNat 0))) := s2_eq
  generalize px_s2 lv 1 (.inr (.inl (Int64.ofNat 0))) = lv1 at l0 l1 ⊢
  show t_X d 244 2 lv1 [] g P
  refine t_0 vse_2 rfl rfl ?_
  refine t_2 vse_3 rfl (w := (px_s1 lv1 3 (oI 0), [])) rfl ?_
  replace l0 : px_lg (px_s1 lv1 3 (oI 0)) 0 = some (pvR 196) := s1_ne (by decide) (fun _ => rfl) l0
  replace l1 : px_lg (px_s1 lv1 3 (oI 0)) 1 = some (.inr (.inl (Int64.ofNat 0))) := s1_ne (by decide) (fun z => absurd z (by decide)) l1
  have l3 : px_lg (px_s1 lv1 3 (oI 0)) 3 = some (oI 0) := s1_eq
  generalize px_s1 lv1 3 (oI 0) = lv2 at l0 l1 l3 ⊢
  show t_X d 244 4 lv2 [] g P
  exact vse_loop hh ht hρ hG hR hT hH hW hd hP 8 0 _ (by omega) (by omega) l0 l1 l3
theorem vcp_loop {d : Nat} {g0 : pH} {P : Option pv × pH → Prop} (hP : ∀ g : pH, J_ w232 g0 g → (∀ i, i < 7 → fA g 232 i = fA g0 231 i) → P (none, g)) : ∀ (n k : Nat) (g : pH) (cb : Nat → Int) (lv : List (Nat × pv)), 7 - k ≤ n → k ≤ 7 → sE [] [232] w232 g0 g [] [cb] → (∀ i, i < k → cb i = fA g0 231 i) → px_lg lv 0 = some (pvR 231) → px_lg lv 1 = some (pvR 232) → px_lg lv 2 = some (oI 7) → px_lg lv 3 = some (oI (k : Int)) → t_X d 179 2 lv [] g P := by
  intro n
  induction n with
  | zero =>
    intro k g cb lv hr hk2 hS hc l0 l1 l2 l3
    refine t_0 vcp_2 rfl (ld_i l3) ?_
    refine t_0 vcp_3 rfl (ld_i l2) ?_
    refine tb_ge vcp_4 (by decide) ⟨by omega, by omega⟩ ⟨by omega, by omega⟩ (fun c1 => ?_) (fun c1 => absurd c1 (by omega))
    show t_X d 179 19 lv [] g P
    refine t_5 vcp_19 rfl rfl ?_
    obtain rfl : k = 7 := by omega
    exact hP g (S_J hS) (fun i hi => (congrFun (show fA g 232 = cb from S_a hS 0 (Nat.le_of_ble_eq_true rfl)) i).trans (hc i hi))
  | succ n ih =>
    intro k g cb lv hr hk2 hS hc l0 l1 l2 l3
    have rb : -2147483648 ≤ fA g0 231 k ∧ fA g0 231 k ≤ 2147483647 := i32_b _
    by_cases hk : k < 7
    · skip
      refine t_0 vcp_2 rfl (ld_i l3) ?_
      refine t_0 vcp_3 rfl (ld_i l2) ?_
      refine tb_ge vcp_4 (by decide) ⟨by omega, by omega⟩ ⟨by omega, by omega⟩ (fun c1 => absurd c1 (by omega)) (fun c1 => ?_)
      show t_X d 179 7 lv [] g P
      refine t_0 vcp_7 rfl (ld_a l1) ?_
      refine t_0 vcp_8 rfl (ld_i l3) ?_
      refine t_0 vcp_9 rfl (ld_a l0) ?_
      refine t_0 vcp_10 rfl (ld_i l3) ?_
      refine t_0 vcp_11 rfl (pq_iw yqez_231 rfl ⟨by omega, by omega⟩ (congrFun (fA_M (S_J hS).2 wN_n.1.1) k)) ?_
      show t_X d 179 12 lv [oI (fA g0 231 k), oI ((k : Int)), pvR 232] g P
      refine ts_a (n := 0) rfl rfl (by decide) vcp_12 hS yqez_232 rfl wu_w232_232 yqgu_232 (by decide) ⟨by omega, by omega⟩ ⟨by omega, by omega⟩ (fun g2 hS2 => ?_)
      replace hS2 : sE [] [232] w232 g0 g2 [] [updI cb (k : Int).toNat (fA g0 231 k)] := hS2
      obtain ⟨c232_6, ec232_6⟩ : ∃ z : Nat → Int, z = updI cb (k : Int).toNat (fA g0 231 k) := ⟨_, rfl⟩
      rw [← ec232_6] at hS2
      replace hS2 : sE [] [232] w232 g0 g2 [] [c232_6] := hS2
      have fc232_6 : c232_6 k = fA g0 231 k := by rw [ec232_6]; exact if_pos rfl
      have nc232_6 : ∀ j, j ≠ k → c232_6 j = cb j := fun j hj => by rw [ec232_6]; exact if_neg hj
      show t_X d 179 13 lv [] g2 P
      refine t_2 vcp_13 rfl (w := (px_s1 lv 3 (oI ((k : Int) + 1)), [])) (pq_inc l3 (by decide)) ?_
      replace l0 : px_lg (px_s1 lv 3 (oI ((k : Int) + 1))) 0 = some (pvR 231) := s1_ne (by decide) (fun _ => rfl) l0
      replace l1 : px_lg (px_s1 lv 3 (oI ((k : Int) + 1))) 1 = some (pvR 232) := s1_ne (by decide) (fun _ => rfl) l1
      replace l2 : px_lg (px_s1 lv 3 (oI ((k : Int) + 1))) 2 = some (oI 7) := s1_ne (by decide) (fun _ => rfl) l2
      have l3 : px_lg (px_s1 lv 3 (oI ((k : Int) + 1))) 3 = some (oI ((k : Int) + 1)) := s1_eq
      generalize px_s1 lv 3 (oI ((k : Int) + 1)) = lv3 at l0 l1 l2 l3 ⊢
      show t_X d 179 16 lv3 [] g2 P
      refine t_1 vcp_16 rfl (pb_goto (pc := 16) (by decide)) ?_
      show t_X d 179 2 lv3 [] g2 P
      refine ih (k + 1) g2 c232_6 _ (by omega) (by omega) hS2 (fun i hi => ?_) l0 l1 l2 l3
      rcases Nat.lt_or_ge i k with z | z
      · exact (nc232_6 i (by omega)).trans (hc i z)
      · rw [show i = k by omega]; exact fc232_6
    · skip
      refine t_0 vcp_2 rfl (ld_i l3) ?_
      refine t_0 vcp_3 rfl (ld_i l2) ?_
      refine tb_ge vcp_4 (by decide) ⟨by omega, by omega⟩ ⟨by omega, by omega⟩ (fun c1 => ?_) (fun c1 => absurd c1 (by omega))
      show t_X d 179 19 lv [] g P
      refine t_5 vcp_19 rfl rfl ?_
      obtain rfl : k = 7 := by omega
      exact hP g (S_J hS) (fun i hi => (congrFun (show fA g 232 = cb from S_a hS 0 (Nat.le_of_ble_eq_true rfl)) i).trans (hc i hi))
theorem vcp_run {d : Nat} {g0 : pH} {P : Option pv × pH → Prop} (hP : ∀ g : pH, J_ w232 g0 g → (∀ i, i < 7 → fA g 232 i = fA g0 231 i) → P (none, g)) (hG : g_I eG g0) {lv : List (Nat × pv)} (l0 : px_lg lv 0 = some (pvR 231)) (l1 : px_lg lv 1 = some (pvR 232)) (l2 : px_lg lv 2 = some (oI 7)) : t_X d 179 0 lv [] g0 P := by
  have hS : sE [] [232] w232 g0 g0 [] [fA g0 232] := S_0 hG
  refine t_0 vcp_0 rfl rfl ?_
  refine t_2 vcp_1 rfl (w := (px_s1 lv 3 (oI 0), [])) rfl ?_
  replace l0 : px_lg (px_s1 lv 3 (oI 0)) 0 = some (pvR 231) := s1_ne (by decide) (fun _ => rfl) l0
  replace l1 : px_lg (px_s1 lv 3 (oI 0)) 1 = some (pvR 232) := s1_ne (by decide) (fun _ => rfl) l1
  replace l2 : px_lg (px_s1 lv 3 (oI 0)) 2 = some (oI 7) := s1_ne (by decide) (fun _ => rfl) l2
  have l3 : px_lg (px_s1 lv 3 (oI 0)) 3 = some (oI 0) := s1_eq
  generalize px_s1 lv 3 (oI 0) = lv1 at l0 l1 l2 l3 ⊢
  show t_X d 179 2 lv1 [] g0 P
  exact vcp_loop hP 7 0 g0 _ _ (by omega) (by omega) hS (fun i hi => absurd hi (Nat.not_lt_zero i)) l0 l1 l2 l3
set_option maxHeartbeats 1000000 in
theorem vno_run {h tk : Nat → Int} {rt : Nat → Bool} (hh : ∀ w, 0 ≤ h w ∧ h w ≤ 99) (ht : ∀ t, 0 ≤ tk t ∧ tk t ≤ 99) {ρ : Nat → Nat} (hρ : ∀ i, 1 ≤ ρ i ∧ ρ i < 8) {g : pH} (hG : g_I eG g) (hR : cF g 196 61 = ((rB rt 8 : Nat) : Int)) (hT : ∀ j, 1 ≤ j → j < 8 → fA g 230 j = tk j) (hH : ∀ j, j < 8 → fA g 229 j = h j) (hW : ∀ i, i < 7 → fA g 231 i = ((ρ i : Nat) : Int)) {d : Nat} (hd : 2 ≤ d) {st : rO} (hst : stR g st) {P : Option pv × pH → Prop} (hP : ∀ g1 : pH, J_ wN9 g g1 → stR g1 (mB st (some (cK h tk rt ρ 7, pK ρ 7))) → P (none, g1)) {lv : List (Nat × pv)} (l0 : px_lg lv 0 = some (pvR 196)) : t_X d 224 0 lv [] g P := by
  cases st with
  | none =>
    have hLL : g.2.1 196 62 = Int64.ofInt (-1) := hst
    refine t_0 vno_0 rfl (ld_a l0) ?_
    refine t_3 vno_1 rfl (ar := ([pvR 196], [])) (pcal_w (as := []) rfl rfl rfl yqeo_196) ⟨by omega, Nat.le_of_ble_eq_true rfl, Nat.le_of_ble_eq_true rfl, rfl⟩ ?_
    refine vse_run hh ht hρ hG hR hT hH hW (by omega) ?_ rfl
    have cb := cK_b (rt := rt) (ρ := ρ) hh ht
    generalize hA : cK h tk rt ρ 7 = A at cb hP ⊢
    show t_X d 224 4 lv [.inr (.inl (Int64.ofInt A))] g P
    refine t_2 vno_4 rfl (w := (px_s2 lv 1 (.inr (.inl (Int64.ofInt A))), [])) rfl ?_
    replace l0 : px_lg (px_s2 lv 1 (.inr (.inl (Int64.ofInt A)))) 0 = some (pvR 196) := s2_ne (by decide) (fun _ => rfl) l0
    have l1 : px_lg (px_s2 lv 1 (.inr (.inl (Int64.ofInt A)))) 1 = some (.inr (.inl (Int64.ofInt A))) := s2_eq
    generalize px_s2 lv 1 (.inr (.inl (Int64.ofInt A))) = lv1 at l0 l1 ⊢
    show t_X d 224 5 lv1 [] g P
    refine t_0 vno_5 rfl (ld_a l0) ?_
    refine t_0 vno_6 rfl (pq_lf yqeo_196 rfl hLL) ?_
    show t_X d 224 9 lv1 [.inr (.inl (Int64.ofInt (-1)))] g P
    refine t_0 vno_9 rfl rfl ?_
    refine t_0 vno_10 rfl (pq_lz (by omega) (Or.inl ⟨by omega, rfl⟩)) ?_
    refine tz_lt vno_11 (by decide) ⟨by omega, by omega⟩ (fun c2 => ?_) (fun c2 => absurd c2 (by omega))
    show t_X d 224 24 lv1 [] g P
    refine t_0 vno_24 rfl (ld_a l0) ?_
    refine t_0 vno_25 rfl (ld_l l1) ?_
    have hA8 : (Int64.ofInt A).toInt = A := oLT (by omega) (by omega)
    refine tw_lf vno_26 yqeo_196 rfl (J_rf hG : J_ (2 ^ (cn 196 + 62)) g g) (by decide +kernel) yqgy_196_62 ⟨by omega, by omega⟩ (fun g1 J1 e1 => ?_)
    show t_X d 224 29 lv1 [] g1 P
    refine t_0 vno_29 rfl (ld_a l0) ?_
    refine t_0 vno_30 rfl (yqcq_196_57 J1.1) ?_
    show t_X d 224 33 lv1 [pvR 231] g1 P
    refine t_0 vno_33 rfl (ld_a l0) ?_
    refine t_0 vno_34 rfl (yqcq_196_58 J1.1) ?_
    show t_X d 224 37 lv1 [pvR 232, pvR 231] g1 P
    refine t_0 vno_37 rfl (pq_b (by decide)) ?_
    refine t_3 vno_39 rfl (ar := ([pvR 231, pvR 232, oI 7], [])) (pcal_s ⟨Or.inl rfl, rfl, Nat.le_of_ble_eq_true rfl⟩) ⟨by omega, Nat.le_of_ble_eq_true rfl, Nat.le_of_ble_eq_true rfl, rfl⟩ ?_
    refine vcp_run (fun g2 J2 h2 => ?_) J1.1 rfl rfl rfl
    show t_X d 224 42 lv1 [] g2 P
    refine t_5 vno_42 rfl rfl ?_
    refine hP g2 (J_up wN_n.2.1.1 (J_up wN_n.2.2.2.2.2.2 (J_rf hG) J1) J2) ?_
    have e9 : g2.2.1 196 62 = Int64.ofInt A := (J2.2.1 196 62 wN_n.1.2).2.1.trans (by rw [e1]; show pu g.2.1 196 62 (Int64.ofInt A) 196 62 = _; exact pu_rr)
    have hb9 : ∀ i, i < 7 → fA g2 232 i = (((pK ρ 7).getD i 0 : Nat) : Int) := fun i hi => by rw [h2 i hi, congrFun (fA_M J1.2 wN_n.2.2.2.2.2.1) i, hW i hi, List.getD_eq_getElem?_getD, (pK_l (ρ := ρ) 7).2 i hi]; rfl
    have R9 : stR g2 (some (A, pK ρ 7)) := ⟨e9, ⟨by omega, by omega⟩, hb9⟩
    exact R9
  | some p =>
    obtain ⟨hLL, pb, hbr⟩ := hst
    have hst : stR g (some p) := ⟨hLL, pb, hbr⟩
    rcases (show p.1 = 0 ∨ 0 < p.1 by omega) with e0 | e0
    · rcases (show cK h tk rt ρ 7 < p.1 ∨ cK h tk rt ρ 7 = p.1 ∨ p.1 < cK h tk rt ρ 7 by omega) with e1_ | e1_ | e1_
      · skip
        refine t_0 vno_0 rfl (ld_a l0) ?_
        refine t_3 vno_1 rfl (ar := ([pvR 196], [])) (pcal_w (as := []) rfl rfl rfl yqeo_196) ⟨by omega, Nat.le_of_ble_eq_true rfl, Nat.le_of_ble_eq_true rfl, rfl⟩ ?_
        refine vse_run hh ht hρ hG hR hT hH hW (by omega) ?_ rfl
        have cb := cK_b (rt := rt) (ρ := ρ) hh ht
        generalize hA : cK h tk rt ρ 7 = A at cb hP e1_ ⊢
        show t_X d 224 4 lv [.inr (.inl (Int64.ofInt A))] g P
        refine t_2 vno_4 rfl (w := (px_s2 lv 1 (.inr (.inl (Int64.ofInt A))), [])) rfl ?_
        replace l0 : px_lg (px_s2 lv 1 (.inr (.inl (Int64.ofInt A)))) 0 = some (pvR 196) := s2_ne (by decide) (fun _ => rfl) l0
        have l1 : px_lg (px_s2 lv 1 (.inr (.inl (Int64.ofInt A)))) 1 = some (.inr (.inl (Int64.ofInt A))) := s2_eq
        generalize px_s2 lv 1 (.inr (.inl (Int64.ofInt A))) = lv1 at l0 l1 ⊢
        show t_X d 224 5 lv1 [] g P
        refine t_0 vno_5 rfl (ld_a l0) ?_
        refine t_0 vno_6 rfl (pq_lf yqeo_196 rfl hLL) ?_
        show t_X d 224 9 lv1 [.inr (.inl (Int64.ofInt (p.1)))] g P
        refine t_0 vno_9 rfl rfl ?_
        refine t_0 vno_10 rfl (pq_lz (by omega) (Or.inr (Or.inl ⟨by omega, rfl⟩))) ?_
        refine tz_lt vno_11 (by decide) ⟨by omega, by omega⟩ (fun c2 => absurd c2 (by omega)) (fun c2 => ?_)
        show t_X d 224 14 lv1 [] g P
        refine t_0 vno_14 rfl (ld_l l1) ?_
        refine t_0 vno_15 rfl (ld_a l0) ?_
        refine t_0 vno_16 rfl (pq_lf yqeo_196 rfl hLL) ?_
        show t_X d 224 19 lv1 [.inr (.inl (Int64.ofInt (p.1))), .inr (.inl (Int64.ofInt A))] g P
        refine t_0 vno_19 rfl (pq_lw (by omega) (by omega) (Or.inl ⟨by omega, rfl⟩)) ?_
        refine tz_lt vno_20 (by decide) ⟨by omega, by omega⟩ (fun c3 => ?_) (fun c3 => absurd c3 (by omega))
        show t_X d 224 24 lv1 [] g P
        refine t_0 vno_24 rfl (ld_a l0) ?_
        refine t_0 vno_25 rfl (ld_l l1) ?_
        have hA8 : (Int64.ofInt A).toInt = A := oLT (by omega) (by omega)
        refine tw_lf vno_26 yqeo_196 rfl (J_rf hG : J_ (2 ^ (cn 196 + 62)) g g) (by decide +kernel) yqgy_196_62 ⟨by omega, by omega⟩ (fun g1 J1 e1 => ?_)
        show t_X d 224 29 lv1 [] g1 P
        refine t_0 vno_29 rfl (ld_a l0) ?_
        refine t_0 vno_30 rfl (yqcq_196_57 J1.1) ?_
        show t_X d 224 33 lv1 [pvR 231] g1 P
        refine t_0 vno_33 rfl (ld_a l0) ?_
        refine t_0 vno_34 rfl (yqcq_196_58 J1.1) ?_
        show t_X d 224 37 lv1 [pvR 232, pvR 231] g1 P
        refine t_0 vno_37 rfl (pq_b (by decide)) ?_
        refine t_3 vno_39 rfl (ar := ([pvR 231, pvR 232, oI 7], [])) (pcal_s ⟨Or.inl rfl, rfl, Nat.le_of_ble_eq_true rfl⟩) ⟨by omega, Nat.le_of_ble_eq_true rfl, Nat.le_of_ble_eq_true rfl, rfl⟩ ?_
        refine vcp_run (fun g2 J2 h2 => ?_) J1.1 rfl rfl rfl
        show t_X d 224 42 lv1 [] g2 P
        refine t_5 vno_42 rfl rfl ?_
        refine hP g2 (J_up wN_n.2.1.1 (J_up wN_n.2.2.2.2.2.2 (J_rf hG) J1) J2) ?_
        have e9 : g2.2.1 196 62 = Int64.ofInt A := (J2.2.1 196 62 wN_n.1.2).2.1.trans (by rw [e1]; show pu g.2.1 196 62 (Int64.ofInt A) 196 62 = _; exact pu_rr)
        have hb9 : ∀ i, i < 7 → fA g2 232 i = (((pK ρ 7).getD i 0 : Nat) : Int) := fun i hi => by rw [h2 i hi, congrFun (fA_M J1.2 wN_n.2.2.2.2.2.1) i, hW i hi, List.getD_eq_getElem?_getD, (pK_l (ρ := ρ) 7).2 i hi]; rfl
        have R9 : stR g2 (some (A, pK ρ 7)) := ⟨e9, ⟨by omega, by omega⟩, hb9⟩
        show stR g2 (if A < p.1 then some (A, pK ρ 7) else some p)
        rw [if_pos (by omega)]
        exact R9
      · skip
        refine t_0 vno_0 rfl (ld_a l0) ?_
        refine t_3 vno_1 rfl (ar := ([pvR 196], [])) (pcal_w (as := []) rfl rfl rfl yqeo_196) ⟨by omega, Nat.le_of_ble_eq_true rfl, Nat.le_of_ble_eq_true rfl, rfl⟩ ?_
        refine vse_run hh ht hρ hG hR hT hH hW (by omega) ?_ rfl
        have cb := cK_b (rt := rt) (ρ := ρ) hh ht
        generalize hA : cK h tk rt ρ 7 = A at cb hP e1_ ⊢
        show t_X d 224 4 lv [.inr (.inl (Int64.ofInt A))] g P
        refine t_2 vno_4 rfl (w := (px_s2 lv 1 (.inr (.inl (Int64.ofInt A))), [])) rfl ?_
        replace l0 : px_lg (px_s2 lv 1 (.inr (.inl (Int64.ofInt A)))) 0 = some (pvR 196) := s2_ne (by decide) (fun _ => rfl) l0
        have l1 : px_lg (px_s2 lv 1 (.inr (.inl (Int64.ofInt A)))) 1 = some (.inr (.inl (Int64.ofInt A))) := s2_eq
        generalize px_s2 lv 1 (.inr (.inl (Int64.ofInt A))) = lv1 at l0 l1 ⊢
        show t_X d 224 5 lv1 [] g P
        refine t_0 vno_5 rfl (ld_a l0) ?_
        refine t_0 vno_6 rfl (pq_lf yqeo_196 rfl hLL) ?_
        show t_X d 224 9 lv1 [.inr (.inl (Int64.ofInt (p.1)))] g P
        refine t_0 vno_9 rfl rfl ?_
        refine t_0 vno_10 rfl (pq_lz (by omega) (Or.inr (Or.inl ⟨by omega, rfl⟩))) ?_
        refine tz_lt vno_11 (by decide) ⟨by omega, by omega⟩ (fun c2 => absurd c2 (by omega)) (fun c2 => ?_)
        show t_X d 224 14 lv1 [] g P
        refine t_0 vno_14 rfl (ld_l l1) ?_
        refine t_0 vno_15 rfl (ld_a l0) ?_
        refine t_0 vno_16 rfl (pq_lf yqeo_196 rfl hLL) ?_
        show t_X d 224 19 lv1 [.inr (.inl (Int64.ofInt (p.1))), .inr (.inl (Int64.ofInt A))] g P
        refine t_0 vno_19 rfl (pq_lw (by omega) (by omega) (Or.inr (Or.inl ⟨by omega, rfl⟩))) ?_
        refine tz_lt vno_20 (by decide) ⟨by omega, by omega⟩ (fun c3 => absurd c3 (by omega)) (fun c3 => ?_)
        show t_X d 224 23 lv1 [] g P
        refine t_5 vno_23 rfl rfl ?_
        refine hP g (J_rf hG) ?_
        show stR g (if A < p.1 then some (A, pK ρ 7) else some p)
        rw [if_neg (by omega)]
        exact hst
      · skip
        refine t_0 vno_0 rfl (ld_a l0) ?_
        refine t_3 vno_1 rfl (ar := ([pvR 196], [])) (pcal_w (as := []) rfl rfl rfl yqeo_196) ⟨by omega, Nat.le_of_ble_eq_true rfl, Nat.le_of_ble_eq_true rfl, rfl⟩ ?_
        refine vse_run hh ht hρ hG hR hT hH hW (by omega) ?_ rfl
        have cb := cK_b (rt := rt) (ρ := ρ) hh ht
        generalize hA : cK h tk rt ρ 7 = A at cb hP e1_ ⊢
        show t_X d 224 4 lv [.inr (.inl (Int64.ofInt A))] g P
        refine t_2 vno_4 rfl (w := (px_s2 lv 1 (.inr (.inl (Int64.ofInt A))), [])) rfl ?_
        replace l0 : px_lg (px_s2 lv 1 (.inr (.inl (Int64.ofInt A)))) 0 = some (pvR 196) := s2_ne (by decide) (fun _ => rfl) l0
        have l1 : px_lg (px_s2 lv 1 (.inr (.inl (Int64.ofInt A)))) 1 = some (.inr (.inl (Int64.ofInt A))) := s2_eq
        generalize px_s2 lv 1 (.inr (.inl (Int64.ofInt A))) = lv1 at l0 l1 ⊢
        show t_X d 224 5 lv1 [] g P
        refine t_0 vno_5 rfl (ld_a l0) ?_
        refine t_0 vno_6 rfl (pq_lf yqeo_196 rfl hLL) ?_
        show t_X d 224 9 lv1 [.inr (.inl (Int64.ofInt (p.1)))] g P
        refine t_0 vno_9 rfl rfl ?_
        refine t_0 vno_10 rfl (pq_lz (by omega) (Or.inr (Or.inl ⟨by omega, rfl⟩))) ?_
        refine tz_lt vno_11 (by decide) ⟨by omega, by omega⟩ (fun c2 => absurd c2 (by omega)) (fun c2 => ?_)
        show t_X d 224 14 lv1 [] g P
        refine t_0 vno_14 rfl (ld_l l1) ?_
        refine t_0 vno_15 rfl (ld_a l0) ?_
        refine t_0 vno_16 rfl (pq_lf yqeo_196 rfl hLL) ?_
        show t_X d 224 19 lv1 [.inr (.inl (Int64.ofInt (p.1))), .inr (.inl (Int64.ofInt A))] g P
        refine t_0 vno_19 rfl (pq_lw (by omega) (by omega) (Or.inr (Or.inr ⟨by omega, rfl⟩))) ?_
        refine tz_lt vno_20 (by decide) ⟨by omega, by omega⟩ (fun c3 => absurd c3 (by omega)) (fun c3 => ?_)
        show t_X d 224 23 lv1 [] g P
        refine t_5 vno_23 rfl rfl ?_
        refine hP g (J_rf hG) ?_
        show stR g (if A < p.1 then some (A, pK ρ 7) else some p)
        rw [if_neg (by omega)]
        exact hst
    · rcases (show cK h tk rt ρ 7 < p.1 ∨ cK h tk rt ρ 7 = p.1 ∨ p.1 < cK h tk rt ρ 7 by omega) with e1_ | e1_ | e1_
      · skip
        refine t_0 vno_0 rfl (ld_a l0) ?_
        refine t_3 vno_1 rfl (ar := ([pvR 196], [])) (pcal_w (as := []) rfl rfl rfl yqeo_196) ⟨by omega, Nat.le_of_ble_eq_true rfl, Nat.le_of_ble_eq_true rfl, rfl⟩ ?_
        refine vse_run hh ht hρ hG hR hT hH hW (by omega) ?_ rfl
        have cb := cK_b (rt := rt) (ρ := ρ) hh ht
        generalize hA : cK h tk rt ρ 7 = A at cb hP e1_ ⊢
        show t_X d 224 4 lv [.inr (.inl (Int64.ofInt A))] g P
        refine t_2 vno_4 rfl (w := (px_s2 lv 1 (.inr (.inl (Int64.ofInt A))), [])) rfl ?_
        replace l0 : px_lg (px_s2 lv 1 (.inr (.inl (Int64.ofInt A)))) 0 = some (pvR 196) := s2_ne (by decide) (fun _ => rfl) l0
        have l1 : px_lg (px_s2 lv 1 (.inr (.inl (Int64.ofInt A)))) 1 = some (.inr (.inl (Int64.ofInt A))) := s2_eq
        generalize px_s2 lv 1 (.inr (.inl (Int64.ofInt A))) = lv1 at l0 l1 ⊢
        show t_X d 224 5 lv1 [] g P
        refine t_0 vno_5 rfl (ld_a l0) ?_
        refine t_0 vno_6 rfl (pq_lf yqeo_196 rfl hLL) ?_
        show t_X d 224 9 lv1 [.inr (.inl (Int64.ofInt (p.1)))] g P
        refine t_0 vno_9 rfl rfl ?_
        refine t_0 vno_10 rfl (pq_lz (by omega) (Or.inr (Or.inr ⟨by omega, rfl⟩))) ?_
        refine tz_lt vno_11 (by decide) ⟨by omega, by omega⟩ (fun c2 => absurd c2 (by omega)) (fun c2 => ?_)
        show t_X d 224 14 lv1 [] g P
        refine t_0 vno_14 rfl (ld_l l1) ?_
        refine t_0 vno_15 rfl (ld_a l0) ?_
        refine t_0 vno_16 rfl (pq_lf yqeo_196 rfl hLL) ?_
        show t_X d 224 19 lv1 [.inr (.inl (Int64.ofInt (p.1))), .inr (.inl (Int64.ofInt A))] g P
        refine t_0 vno_19 rfl (pq_lw (by omega) (by omega) (Or.inl ⟨by omega, rfl⟩)) ?_
        refine tz_lt vno_20 (by decide) ⟨by omega, by omega⟩ (fun c3 => ?_) (fun c3 => absurd c3 (by omega))
        show t_X d 224 24 lv1 [] g P
        refine t_0 vno_24 rfl (ld_a l0) ?_
        refine t_0 vno_25 rfl (ld_l l1) ?_
        have hA8 : (Int64.ofInt A).toInt = A := oLT (by omega) (by omega)
        refine tw_lf vno_26 yqeo_196 rfl (J_rf hG : J_ (2 ^ (cn 196 + 62)) g g) (by decide +kernel) yqgy_196_62 ⟨by omega, by omega⟩ (fun g1 J1 e1 => ?_)
        show t_X d 224 29 lv1 [] g1 P
        refine t_0 vno_29 rfl (ld_a l0) ?_
        refine t_0 vno_30 rfl (yqcq_196_57 J1.1) ?_
        show t_X d 224 33 lv1 [pvR 231] g1 P
        refine t_0 vno_33 rfl (ld_a l0) ?_
        refine t_0 vno_34 rfl (yqcq_196_58 J1.1) ?_
        show t_X d 224 37 lv1 [pvR 232, pvR 231] g1 P
        refine t_0 vno_37 rfl (pq_b (by decide)) ?_
        refine t_3 vno_39 rfl (ar := ([pvR 231, pvR 232, oI 7], [])) (pcal_s ⟨Or.inl rfl, rfl, Nat.le_of_ble_eq_true rfl⟩) ⟨by omega, Nat.le_of_ble_eq_true rfl, Nat.le_of_ble_eq_true rfl, rfl⟩ ?_
        refine vcp_run (fun g2 J2 h2 => ?_) J1.1 rfl rfl rfl
        show t_X d 224 42 lv1 [] g2 P
        refine t_5 vno_42 rfl rfl ?_
        refine hP g2 (J_up wN_n.2.1.1 (J_up wN_n.2.2.2.2.2.2 (J_rf hG) J1) J2) ?_
        have e9 : g2.2.1 196 62 = Int64.ofInt A := (J2.2.1 196 62 wN_n.1.2).2.1.trans (by rw [e1]; show pu g.2.1 196 62 (Int64.ofInt A) 196 62 = _; exact pu_rr)
        have hb9 : ∀ i, i < 7 → fA g2 232 i = (((pK ρ 7).getD i 0 : Nat) : Int) := fun i hi => by rw [h2 i hi, congrFun (fA_M J1.2 wN_n.2.2.2.2.2.1) i, hW i hi, List.getD_eq_getElem?_getD, (pK_l (ρ := ρ) 7).2 i hi]; rfl
        have R9 : stR g2 (some (A, pK ρ 7)) := ⟨e9, ⟨by omega, by omega⟩, hb9⟩
        show stR g2 (if A < p.1 then some (A, pK ρ 7) else some p)
        rw [if_pos (by omega)]
        exact R9
      · skip
        refine t_0 vno_0 rfl (ld_a l0) ?_
        refine t_3 vno_1 rfl (ar := ([pvR 196], [])) (pcal_w (as := []) rfl rfl rfl yqeo_196) ⟨by omega, Nat.le_of_ble_eq_true rfl, Nat.le_of_ble_eq_true rfl, rfl⟩ ?_
        refine vse_run hh ht hρ hG hR hT hH hW (by omega) ?_ rfl
        have cb := cK_b (rt := rt) (ρ := ρ) hh ht
        generalize hA : cK h tk rt ρ 7 = A at cb hP e1_ ⊢
        show t_X d 224 4 lv [.inr (.inl (Int64.ofInt A))] g P
        refine t_2 vno_4 rfl (w := (px_s2 lv 1 (.inr (.inl (Int64.ofInt A))), [])) rfl ?_
        replace l0 : px_lg (px_s2 lv 1 (.inr (.inl (Int64.ofInt A)))) 0 = some (pvR 196) := s2_ne (by decide) (fun _ => rfl) l0
        have l1 : px_lg (px_s2 lv 1 (.inr (.inl (Int64.ofInt A)))) 1 = some (.inr (.inl (Int64.ofInt A))) := s2_eq
        generalize px_s2 lv 1 (.inr (.inl (Int64.ofInt A))) = lv1 at l0 l1 ⊢
        show t_X d 224 5 lv1 [] g P
        refine t_0 vno_5 rfl (ld_a l0) ?_
        refine t_0 vno_6 rfl (pq_lf yqeo_196 rfl hLL) ?_
        show t_X d 224 9 lv1 [.inr (.inl (Int64.ofInt (p.1)))] g P
        refine t_0 vno_9 rfl rfl ?_
        refine t_0 vno_10 rfl (pq_lz (by omega) (Or.inr (Or.inr ⟨by omega, rfl⟩))) ?_
        refine tz_lt vno_11 (by decide) ⟨by omega, by omega⟩ (fun c2 => absurd c2 (by omega)) (fun c2 => ?_)
        show t_X d 224 14 lv1 [] g P
        refine t_0 vno_14 rfl (ld_l l1) ?_
        refine t_0 vno_15 rfl (ld_a l0) ?_
        refine t_0 vno_16 rfl (pq_lf yqeo_196 rfl hLL) ?_
        show t_X d 224 19 lv1 [.inr (.inl (Int64.ofInt (p.1))), .inr (.inl (Int64.ofInt A))] g P
        refine t_0 vno_19 rfl (pq_lw (by omega) (by omega) (Or.inr (Or.inl ⟨by omega, rfl⟩))) ?_
        refine tz_lt vno_20 (by decide) ⟨by omega, by omega⟩ (fun c3 => absurd c3 (by omega)) (fun c3 => ?_)
        show t_X d 224 23 lv1 [] g P
        refine t_5 vno_23 rfl rfl ?_
        refine hP g (J_rf hG) ?_
        show stR g (if A < p.1 then some (A, pK ρ 7) else some p)
        rw [if_neg (by omega)]
        exact hst
      · skip
        refine t_0 vno_0 rfl (ld_a l0) ?_
        refine t_3 vno_1 rfl (ar := ([pvR 196], [])) (pcal_w (as := []) rfl rfl rfl yqeo_196) ⟨by omega, Nat.le_of_ble_eq_true rfl, Nat.le_of_ble_eq_true rfl, rfl⟩ ?_
        refine vse_run hh ht hρ hG hR hT hH hW (by omega) ?_ rfl
        have cb := cK_b (rt := rt) (ρ := ρ) hh ht
        generalize hA : cK h tk rt ρ 7 = A at cb hP e1_ ⊢
        show t_X d 224 4 lv [.inr (.inl (Int64.ofInt A))] g P
        refine t_2 vno_4 rfl (w := (px_s2 lv 1 (.inr (.inl (Int64.ofInt A))), [])) rfl ?_
        replace l0 : px_lg (px_s2 lv 1 (.inr (.inl (Int64.ofInt A)))) 0 = some (pvR 196) := s2_ne (by decide) (fun _ => rfl) l0
        have l1 : px_lg (px_s2 lv 1 (.inr (.inl (Int64.ofInt A)))) 1 = some (.inr (.inl (Int64.ofInt A))) := s2_eq
        generalize px_s2 lv 1 (.inr (.inl (Int64.ofInt A))) = lv1 at l0 l1 ⊢
        show t_X d 224 5 lv1 [] g P
        refine t_0 vno_5 rfl (ld_a l0) ?_
        refine t_0 vno_6 rfl (pq_lf yqeo_196 rfl hLL) ?_
        show t_X d 224 9 lv1 [.inr (.inl (Int64.ofInt (p.1)))] g P
        refine t_0 vno_9 rfl rfl ?_
        refine t_0 vno_10 rfl (pq_lz (by omega) (Or.inr (Or.inr ⟨by omega, rfl⟩))) ?_
        refine tz_lt vno_11 (by decide) ⟨by omega, by omega⟩ (fun c2 => absurd c2 (by omega)) (fun c2 => ?_)
        show t_X d 224 14 lv1 [] g P
        refine t_0 vno_14 rfl (ld_l l1) ?_
        refine t_0 vno_15 rfl (ld_a l0) ?_
        refine t_0 vno_16 rfl (pq_lf yqeo_196 rfl hLL) ?_
        show t_X d 224 19 lv1 [.inr (.inl (Int64.ofInt (p.1))), .inr (.inl (Int64.ofInt A))] g P
        refine t_0 vno_19 rfl (pq_lw (by omega) (by omega) (Or.inr (Or.inr ⟨by omega, rfl⟩))) ?_
        refine tz_lt vno_20 (by decide) ⟨by omega, by omega⟩ (fun c3 => absurd c3 (by omega)) (fun c3 => ?_)
        show t_X d 224 23 lv1 [] g P
        refine t_5 vno_23 rfl rfl ?_
        refine hP g (J_rf hG) ?_
        show stR g (if A < p.1 then some (A, pK ρ 7) else some p)
        rw [if_neg (by omega)]
        exact hst
