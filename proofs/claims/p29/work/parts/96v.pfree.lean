section
/-! the tie: answers of ways and shadow: runs without a heap, reckoned whole (printed by wip/e2/t13.py) -/
/-- what is pushed without a look at the heap -/
def nhp (I : Jvm.ClassFile.Instr) : Bool := match I with
  | .iconst _ => true
  | .bipush _ => true
  | .sipush _ => true
  | .lconst _ => true
  | .ldc _ => true
  | .ldc_w _ => true
  | .ldc2_w _ => true
  | .iload _ => true
  | .iload_n _ => true
  | .lload _ => true
  | .lload_n _ => true
  | .aload _ => true
  | .aload_n _ => true
  | .iadd => true
  | .isub => true
  | .imul => true
  | .idiv => true
  | .irem => true
  | .ineg => true
  | .iand => true
  | .ior => true
  | .ixor => true
  | .ishl => true
  | .ishr => true
  | .iushr => true
  | .ladd => true
  | .lsub => true
  | .lmul => true
  | .ldiv => true
  | .lrem => true
  | .lneg => true
  | .lcmp => true
  | .i2l => true
  | .l2i => true
  | .i2b => true
  | .i2c => true
  | .dup => true
  | .dup2 => true
  | .pop => true
  | .pop2 => true
  | .aconst_null => true
  | .invokestatic _ => true
  | _ => false
theorem nhp_ok {I : Jvm.ClassFile.Instr} (h : nhp I = true) (ly : List (Nat × Nat)) (d : Nat) (sc : pS) (x y : Nat) (lv : List (Nat × pv)) (st : List pv) (h1 h2 : pH) : px_pf I ly d sc x y lv st h1 = px_pf I ly d sc x y lv st h2 := by
  cases I <;> first | rfl | cases h
def hz_ : pH := (fun _ _ => 0, fun _ _ => 0, fun _ _ => none, fun _ _ => 0, fun _ _ => 0, fun _ _ => none)
/-- the plain machine without a heap -/
def pn_run : Nat → Nat → Nat → Nat → List (Nat × pv) → List pv → Option (Option pv)
  | 0, _, _, _, _, _ => none
  | n + 1, d, μ, pc, lv, st => match xe_look (xc μ) pc with
    | none => none
    | some q => match px_kd q.1 q.2.2.1 with
      | 0 => match nhp q.1 with
        | true => (match px_push eL d none q.1 q.2.2.1 q.2.2.2.1 lv st hz_ with
          | some st2 => pn_run n d μ (pc + q.2.1) lv st2
          | none => none)
        | false => none
      | 1 => match px_bf q.1 pc st with
        | some t => pn_run n d μ t.1 lv t.2
        | none => none
      | 2 => match px_of q.1 (xm μ).2.2.1 lv st with
        | some w => pn_run n d μ (pc + q.2.1) w.1 w.2
        | none => none
      | 3 => match px_cal eL q.1 q.2.2.1 q.2.2.2.1 st with
        | some ar => if 1 ≤ d ∧ px_sum ar.2 ≤ 8 ∧ px_sum ar.1 ≤ (xm q.2.2.2.1).2.2.1 ∧ (xm q.2.2.2.1).2.2.2.2.1 = (0, 0) then (match pn_run n (d - 1) q.2.2.2.1 0 (px_ar 0 ar.1) [] with
          | some r => pn_run n d μ (pc + 3) lv (r.toList ++ ar.2)
          | none => none) else none
        | none => none
      | 5 => px_ret (xm μ).2.2.2.1 q.1 st
      | 7 => match px_ixo d q.2.2.1 st with
        | some st2 => pn_run n d μ (pc + 3) lv st2
        | none => none
      | _ => none
theorem pn_ok : ∀ (n d μ pc : Nat) (lv : List (Nat × pv)) (st : List pv) (r : Option pv) (h : pH), pn_run n d μ pc lv st = some r → px_run eL n d none μ pc lv st h = some (r, h) := by
  intro n
  induction n with
  | zero =>
    intro d μ pc lv st r h hr
    cases hr
  | succ n ih =>
    intro d μ pc lv st r h hr
    unfold pn_run at hr
    cases hq : xe_look (xc μ) pc with
    | none => rw [hq] at hr; cases hr
    | some q =>
      rw [hq] at hr
      try dsimp only at hr
      rw [px_run_s hq]
      unfold px_step
      generalize hk : px_kd q.1 q.2.2.1 = k at hr ⊢
      split at hr
      · rw [show px_sd 0 = px_h0 from rfl]
        unfold px_h0
        split at hr
        · next hn =>
          split at hr
          · next st2 hs =>
            have e : px_push eL d none q.1 q.2.2.1 q.2.2.2.1 lv st h = some st2 := (nhp_ok hn eL d none q.2.2.1 q.2.2.2.1 lv st h hz_).trans hs
            rw [e]
            exact ih _ _ _ _ _ _ h hr
          · cases hr
        · cases hr
      · rw [show px_sd 1 = px_h1 from rfl]
        unfold px_h1
        split at hr
        · next t hs =>
          rw [hs]
          exact ih _ _ _ _ _ _ h hr
        · cases hr
      · rw [show px_sd 2 = px_h2 from rfl]
        unfold px_h2
        split at hr
        · next w hs =>
          rw [hs]
          exact ih _ _ _ _ _ _ h hr
        · cases hr
      · rw [show px_sd 3 = px_h3 from rfl]
        unfold px_h3
        split at hr
        · next ar hs =>
          rw [hs]
          dsimp only
          split at hr
          · next hc =>
            rw [if_pos hc]
            split at hr
            · next r1 hs1 =>
              rw [ih _ _ _ _ _ _ h hs1]
              exact ih _ _ _ _ _ _ h hr
            · cases hr
          · cases hr
        · cases hr
      · rw [show px_sd 5 = px_h5 from rfl]
        unfold px_h5
        rw [hr]
      · rw [show px_sd 7 = px_h6 from rfl]
        unfold px_h6
        split at hr
        · next st2 hs =>
          rw [hs]
          exact ih _ _ _ _ _ _ h hr
        · cases hr
      · cases hr
/-- both sides come to the same, without a heap -/
def pn_2 (n μ ν : Nat) (as : List pv) (τ : Nat) : Bool := match pn_run n 99 μ 0 (px_ar 0 (pvR 0 :: as)) [], pn_run n 99 ν 0 (px_ar 0 (pvR 196 :: as)) [] with
  | some (some u), some (some v) => decide (u = v) && Nat.beq (ct u) τ
  | _, _ => false
theorem pn_pair {n μ ν τ : Nat} {as : List pv} (h : pn_2 n μ ν as τ = true) {g : pH} (hG : g_I eG g) (hx : xL g) (hR : R0 g) : pr_ R0 μ ν as τ true g := by
  unfold pn_2 at h
  split at h
  · next u v h1 h2 =>
    rw [Bool.and_eq_true] at h
    have e1 := of_decide_eq_true h.1
    have e2 := Nat.eq_of_beq_eq_true h.2
    refine ⟨n, _, pn_ok _ _ _ _ _ _ _ g h1, u, rfl, e2, n, _, pn_ok _ _ _ _ _ _ _ g h2, v, rfl, by rw [← e1]; exact e2, hG, hx, hR, fun _ => e1⟩
  · cases h
theorem r_oI {x : Int32} {n : Nat} (h : x.toInt = n) : x = Int32.ofInt (n : Int) := by
  rw [← h]
  exact (Int32.ofInt_toInt x).symm
def kcwy_1 : eK := (164, (2, [(0, 2, (0, 100000, [1])), (1, 0, ((-2147483648), (-1), [])), (2, 0, ((-2147483648), 2147483647, [])), (3, 0, ((-2147483648), 2147483647, []))], [], []), (0, []), 0, [(some (0, ((-1), (-1), [])), [], [])])
theorem ecwy_1 : ex_mid eG eKT eDX 4000 kcwy_1 [] 0 = true := by decide +kernel
def kcwy_2 : eK := (164, (2, [(0, 2, (0, 100000, [1])), (1, 0, (8, 2147483647, [])), (2, 0, ((-2147483648), 2147483647, [])), (3, 0, ((-2147483648), 2147483647, []))], [], []), (0, []), 0, [(some (0, ((-1), (-1), [])), [], [])])
theorem ecwy_2 : ex_mid eG eKT eDX 4000 kcwy_2 [] 0 = true := by decide +kernel
def kcwy_3 : eK := (164, (2, [(0, 2, (0, 100000, [1])), (1, 0, ((-2147483648), 2147483647, [])), (2, 0, ((-2147483648), (-1), [])), (3, 0, ((-2147483648), 2147483647, []))], [], []), (0, []), 0, [(some (0, ((-1), (-1), [])), [], [])])
theorem ecwy_3 : ex_mid eG eKT eDX 4000 kcwy_3 [] 0 = true := by decide +kernel
def kcwy_4 : eK := (164, (2, [(0, 2, (0, 100000, [1])), (1, 0, ((-2147483648), 2147483647, [])), (2, 0, (8, 2147483647, [])), (3, 0, ((-2147483648), 2147483647, []))], [], []), (0, []), 0, [(some (0, ((-1), (-1), [])), [], [])])
theorem ecwy_4 : ex_mid eG eKT eDX 4000 kcwy_4 [] 0 = true := by decide +kernel
def kcwy_5 : eK := (164, (2, [(0, 2, (0, 100000, [1])), (1, 0, ((-2147483648), 2147483647, [])), (2, 0, ((-2147483648), 2147483647, [])), (3, 0, ((-2147483648), (-1), []))], [], []), (0, []), 0, [(some (0, ((-1), (-1), [])), [], [])])
theorem ecwy_5 : ex_mid eG eKT eDX 4000 kcwy_5 [] 0 = true := by decide +kernel
def kcwy_6 : eK := (164, (2, [(0, 2, (0, 100000, [1])), (1, 0, ((-2147483648), 2147483647, [])), (2, 0, ((-2147483648), 2147483647, [])), (3, 0, (3, 2147483647, []))], [], []), (0, []), 0, [(some (0, ((-1), (-1), [])), [], [])])
theorem ecwy_6 : ex_mid eG eKT eDX 4000 kcwy_6 [] 0 = true := by decide +kernel
def kcwy_a : eK := (164, (2, [(0, 2, (0, 100000, [1])), (1, 0, (0, 7, [])), (2, 0, (0, 7, [])), (3, 0, (0, 2, []))], [], []), (0, []), 0, [(some (0, ((-2147483648), 2147483647, [])), [], [])])
theorem ecwy_a : ex_mid eG eKT eDX 4000 kcwy_a [] 0 = true := by decide +kernel
def kmwy_1 : eK := (273, (1, [(0, 2, (0, 100000, [197])), (1, 0, ((-2147483648), (-1), [])), (2, 0, ((-2147483648), 2147483647, [])), (3, 0, ((-2147483648), 2147483647, []))], [], []), (0, []), 0, [(some (0, ((-1), (-1), [])), [], [])])
theorem emwy_1 : ex_mid eG eKT eDX 4000 kmwy_1 [] 0 = true := by decide +kernel
def kmwy_2 : eK := (273, (1, [(0, 2, (0, 100000, [197])), (1, 0, (8, 2147483647, [])), (2, 0, ((-2147483648), 2147483647, [])), (3, 0, ((-2147483648), 2147483647, []))], [], []), (0, []), 0, [(some (0, ((-1), (-1), [])), [], [])])
theorem emwy_2 : ex_mid eG eKT eDX 4000 kmwy_2 [] 0 = true := by decide +kernel
def kmwy_3 : eK := (273, (1, [(0, 2, (0, 100000, [197])), (1, 0, ((-2147483648), 2147483647, [])), (2, 0, ((-2147483648), (-1), [])), (3, 0, ((-2147483648), 2147483647, []))], [], []), (0, []), 0, [(some (0, ((-1), (-1), [])), [], [])])
theorem emwy_3 : ex_mid eG eKT eDX 4000 kmwy_3 [] 0 = true := by decide +kernel
def kmwy_4 : eK := (273, (1, [(0, 2, (0, 100000, [197])), (1, 0, ((-2147483648), 2147483647, [])), (2, 0, (8, 2147483647, [])), (3, 0, ((-2147483648), 2147483647, []))], [], []), (0, []), 0, [(some (0, ((-1), (-1), [])), [], [])])
theorem emwy_4 : ex_mid eG eKT eDX 4000 kmwy_4 [] 0 = true := by decide +kernel
def kmwy_5 : eK := (273, (1, [(0, 2, (0, 100000, [197])), (1, 0, ((-2147483648), 2147483647, [])), (2, 0, ((-2147483648), 2147483647, [])), (3, 0, ((-2147483648), (-1), []))], [], []), (0, []), 0, [(some (0, ((-1), (-1), [])), [], [])])
theorem emwy_5 : ex_mid eG eKT eDX 4000 kmwy_5 [] 0 = true := by decide +kernel
def kmwy_6 : eK := (273, (1, [(0, 2, (0, 100000, [197])), (1, 0, ((-2147483648), 2147483647, [])), (2, 0, ((-2147483648), 2147483647, [])), (3, 0, (3, 2147483647, []))], [], []), (0, []), 0, [(some (0, ((-1), (-1), [])), [], [])])
theorem emwy_6 : ex_mid eG eKT eDX 4000 kmwy_6 [] 0 = true := by decide +kernel
def kmwy_a : eK := (273, (1, [(0, 2, (0, 100000, [197])), (1, 0, (0, 7, [])), (2, 0, (0, 7, [])), (3, 0, (0, 2, []))], [], []), (0, []), 0, [(some (0, ((-2147483648), 2147483647, [])), [], [])])
theorem emwy_a : ex_mid eG eKT eDX 4000 kmwy_a [] 0 = true := by decide +kernel
def kcsh_1 : eK := (145, (1, [(0, 2, (0, 100000, [1])), (1, 0, ((-2147483648), (-1), [])), (2, 0, ((-2147483648), 2147483647, [])), (3, 0, ((-2147483648), 2147483647, []))], [], []), (0, []), 0, [(some (0, ((-1), (-1), [])), [], [])])
theorem ecsh_1 : ex_mid eG eKT eDX 4000 kcsh_1 [] 0 = true := by decide +kernel
def kcsh_2 : eK := (145, (1, [(0, 2, (0, 100000, [1])), (1, 0, (4, 2147483647, [])), (2, 0, ((-2147483648), 2147483647, [])), (3, 0, ((-2147483648), 2147483647, []))], [], []), (0, []), 0, [(some (0, ((-1), (-1), [])), [], [])])
theorem ecsh_2 : ex_mid eG eKT eDX 4000 kcsh_2 [] 0 = true := by decide +kernel
def kcsh_3 : eK := (145, (1, [(0, 2, (0, 100000, [1])), (1, 0, ((-2147483648), 2147483647, [])), (2, 0, ((-2147483648), (-1), [])), (3, 0, ((-2147483648), 2147483647, []))], [], []), (0, []), 0, [(some (0, ((-1), (-1), [])), [], [])])
theorem ecsh_3 : ex_mid eG eKT eDX 4000 kcsh_3 [] 0 = true := by decide +kernel
def kcsh_4 : eK := (145, (1, [(0, 2, (0, 100000, [1])), (1, 0, ((-2147483648), 2147483647, [])), (2, 0, (4, 2147483647, [])), (3, 0, ((-2147483648), 2147483647, []))], [], []), (0, []), 0, [(some (0, ((-1), (-1), [])), [], [])])
theorem ecsh_4 : ex_mid eG eKT eDX 4000 kcsh_4 [] 0 = true := by decide +kernel
def kcsh_5 : eK := (145, (1, [(0, 2, (0, 100000, [1])), (1, 0, ((-2147483648), 2147483647, [])), (2, 0, ((-2147483648), 2147483647, [])), (3, 0, ((-2147483648), (-1), []))], [], []), (0, []), 0, [(some (0, ((-1), (-1), [])), [], [])])
theorem ecsh_5 : ex_mid eG eKT eDX 4000 kcsh_5 [] 0 = true := by decide +kernel
def kcsh_6 : eK := (145, (1, [(0, 2, (0, 100000, [1])), (1, 0, ((-2147483648), 2147483647, [])), (2, 0, ((-2147483648), 2147483647, [])), (3, 0, (3, 2147483647, []))], [], []), (0, []), 0, [(some (0, ((-1), (-1), [])), [], [])])
theorem ecsh_6 : ex_mid eG eKT eDX 4000 kcsh_6 [] 0 = true := by decide +kernel
def kcsh_a : eK := (145, (1, [(0, 2, (0, 100000, [1])), (1, 0, (0, 3, [])), (2, 0, (0, 3, [])), (3, 0, (0, 2, []))], [], []), (0, []), 0, [(some (0, ((-2147483648), 2147483647, [])), [], [])])
theorem ecsh_a : ex_mid eG eKT eDX 4000 kcsh_a [] 0 = true := by decide +kernel
def kmsh_1 : eK := (246, (1, [(0, 2, (0, 100000, [197])), (1, 0, ((-2147483648), (-1), [])), (2, 0, ((-2147483648), 2147483647, [])), (3, 0, ((-2147483648), 2147483647, []))], [], []), (0, []), 0, [(some (0, ((-1), (-1), [])), [], [])])
theorem emsh_1 : ex_mid eG eKT eDX 4000 kmsh_1 [] 0 = true := by decide +kernel
def kmsh_2 : eK := (246, (1, [(0, 2, (0, 100000, [197])), (1, 0, (4, 2147483647, [])), (2, 0, ((-2147483648), 2147483647, [])), (3, 0, ((-2147483648), 2147483647, []))], [], []), (0, []), 0, [(some (0, ((-1), (-1), [])), [], [])])
theorem emsh_2 : ex_mid eG eKT eDX 4000 kmsh_2 [] 0 = true := by decide +kernel
def kmsh_3 : eK := (246, (1, [(0, 2, (0, 100000, [197])), (1, 0, ((-2147483648), 2147483647, [])), (2, 0, ((-2147483648), (-1), [])), (3, 0, ((-2147483648), 2147483647, []))], [], []), (0, []), 0, [(some (0, ((-1), (-1), [])), [], [])])
theorem emsh_3 : ex_mid eG eKT eDX 4000 kmsh_3 [] 0 = true := by decide +kernel
def kmsh_4 : eK := (246, (1, [(0, 2, (0, 100000, [197])), (1, 0, ((-2147483648), 2147483647, [])), (2, 0, (4, 2147483647, [])), (3, 0, ((-2147483648), 2147483647, []))], [], []), (0, []), 0, [(some (0, ((-1), (-1), [])), [], [])])
theorem emsh_4 : ex_mid eG eKT eDX 4000 kmsh_4 [] 0 = true := by decide +kernel
def kmsh_5 : eK := (246, (1, [(0, 2, (0, 100000, [197])), (1, 0, ((-2147483648), 2147483647, [])), (2, 0, ((-2147483648), 2147483647, [])), (3, 0, ((-2147483648), (-1), []))], [], []), (0, []), 0, [(some (0, ((-1), (-1), [])), [], [])])
theorem emsh_5 : ex_mid eG eKT eDX 4000 kmsh_5 [] 0 = true := by decide +kernel
def kmsh_6 : eK := (246, (1, [(0, 2, (0, 100000, [197])), (1, 0, ((-2147483648), 2147483647, [])), (2, 0, ((-2147483648), 2147483647, [])), (3, 0, (3, 2147483647, []))], [], []), (0, []), 0, [(some (0, ((-1), (-1), [])), [], [])])
theorem emsh_6 : ex_mid eG eKT eDX 4000 kmsh_6 [] 0 = true := by decide +kernel
def kmsh_a : eK := (246, (1, [(0, 2, (0, 100000, [197])), (1, 0, (0, 3, [])), (2, 0, (0, 3, [])), (3, 0, (0, 2, []))], [], []), (0, []), 0, [(some (0, ((-2147483648), 2147483647, [])), [], [])])
theorem emsh_a : ex_mid eG eKT eDX 4000 kmsh_a [] 0 = true := by decide +kernel
set_option maxHeartbeats 2000000 in
theorem cwy_run {d : Nat} (hd : 2 ≤ d) (hd2 : d ≤ 1000000) {g : pH} (hG : g_I eG g) (hx : xL g) {i w n : Int} (hi : -2147483648 ≤ i ∧ i ≤ 2147483647) (hw : -2147483648 ≤ w ∧ w ≤ 2147483647) (hn : -2147483648 ≤ n ∧ n ≤ 2147483647) {P : Option pv × pH → Prop} (hA : ∀ (v : Int32) (g1 : pH), g_I eG g1 → xL g1 → f_M kcwy_a.2.2.2.1 g g1 → (0 ≤ i ∧ i ≤ 7) ∧ (0 ≤ w ∧ w ≤ 7) ∧ (0 ≤ n ∧ n ≤ 2) → P (some (.inl v), g1)) (hR : ∀ (g1 : pH), g_I eG g1 → xL g1 → f_M kcwy_a.2.2.2.1 g g1 → (∀ u v, cF g1 u v = cF g u v) → ¬ ((0 ≤ i ∧ i ≤ 7) ∧ (0 ≤ w ∧ w ≤ 7) ∧ (0 ≤ n ∧ n ≤ 2)) → P (some (oI (-1)), g1)) {lv : List (Nat × pv)} (l0 : px_lg lv 0 = some (pvR 0)) (l1 : px_lg lv 1 = some (oI i)) (l2 : px_lg lv 2 = some (oI w)) (l3 : px_lg lv 3 = some (oI n)) : t_X d 164 0 lv [] g P := by
  have hJ : J_ 0 g g := J_rf hG
  have hb := cb_0_1 hG
  by_cases a0 : i < 0
  · refine mid_L (k := kcwy_1) ecwy_1 hG hx (xs := [cv (pvR 0), cv (oI i), cv (oI w), cv (oI n)]) (ys := []) ⟨by show 2 ≤ _; omega, ⟨⟨pvR 0, l0, rfl, rfl, ok_0⟩, ⟨oI i, l1, rfl, rfl, ok_oI (by omega) (by decide) (by decide)⟩, ⟨oI w, l2, rfl, rfl, ok_full32 _⟩, ⟨oI n, l3, rfl, rfl, ok_full32 _⟩, trivial⟩, trivial, fun c hc => absurd hc List.not_mem_nil⟩ (by omega) (fun o G1 X1 M1 P1 => ?_)
    obtain ⟨o1, o2⟩ := o
    obtain ⟨rfl, -⟩ := po_c P1
    exact hR _ G1 X1 (f_M_0 M1) (fun u v => cF_M0 M1 u v) (fun z => by omega)
  · skip
    by_cases a1 : 7 < i
    · refine mid_L (k := kcwy_2) ecwy_2 hG hx (xs := [cv (pvR 0), cv (oI i), cv (oI w), cv (oI n)]) (ys := []) ⟨by show 2 ≤ _; omega, ⟨⟨pvR 0, l0, rfl, rfl, ok_0⟩, ⟨oI i, l1, rfl, rfl, ok_oI (by omega) (by decide) (by decide)⟩, ⟨oI w, l2, rfl, rfl, ok_full32 _⟩, ⟨oI n, l3, rfl, rfl, ok_full32 _⟩, trivial⟩, trivial, fun c hc => absurd hc List.not_mem_nil⟩ (by omega) (fun o G1 X1 M1 P1 => ?_)
      obtain ⟨o1, o2⟩ := o
      obtain ⟨rfl, -⟩ := po_c P1
      exact hR _ G1 X1 (f_M_0 M1) (fun u v => cF_M0 M1 u v) (fun z => by omega)
    · skip
      by_cases a2 : w < 0
      · refine mid_L (k := kcwy_3) ecwy_3 hG hx (xs := [cv (pvR 0), cv (oI i), cv (oI w), cv (oI n)]) (ys := []) ⟨by show 2 ≤ _; omega, ⟨⟨pvR 0, l0, rfl, rfl, ok_0⟩, ⟨oI i, l1, rfl, rfl, ok_full32 _⟩, ⟨oI w, l2, rfl, rfl, ok_oI (by omega) (by decide) (by decide)⟩, ⟨oI n, l3, rfl, rfl, ok_full32 _⟩, trivial⟩, trivial, fun c hc => absurd hc List.not_mem_nil⟩ (by omega) (fun o G1 X1 M1 P1 => ?_)
        obtain ⟨o1, o2⟩ := o
        obtain ⟨rfl, -⟩ := po_c P1
        exact hR _ G1 X1 (f_M_0 M1) (fun u v => cF_M0 M1 u v) (fun z => by omega)
      · skip
        by_cases a3 : 7 < w
        · refine mid_L (k := kcwy_4) ecwy_4 hG hx (xs := [cv (pvR 0), cv (oI i), cv (oI w), cv (oI n)]) (ys := []) ⟨by show 2 ≤ _; omega, ⟨⟨pvR 0, l0, rfl, rfl, ok_0⟩, ⟨oI i, l1, rfl, rfl, ok_full32 _⟩, ⟨oI w, l2, rfl, rfl, ok_oI (by omega) (by decide) (by decide)⟩, ⟨oI n, l3, rfl, rfl, ok_full32 _⟩, trivial⟩, trivial, fun c hc => absurd hc List.not_mem_nil⟩ (by omega) (fun o G1 X1 M1 P1 => ?_)
          obtain ⟨o1, o2⟩ := o
          obtain ⟨rfl, -⟩ := po_c P1
          exact hR _ G1 X1 (f_M_0 M1) (fun u v => cF_M0 M1 u v) (fun z => by omega)
        · skip
          by_cases a4 : n < 0
          · refine mid_L (k := kcwy_5) ecwy_5 hG hx (xs := [cv (pvR 0), cv (oI i), cv (oI w), cv (oI n)]) (ys := []) ⟨by show 2 ≤ _; omega, ⟨⟨pvR 0, l0, rfl, rfl, ok_0⟩, ⟨oI i, l1, rfl, rfl, ok_full32 _⟩, ⟨oI w, l2, rfl, rfl, ok_full32 _⟩, ⟨oI n, l3, rfl, rfl, ok_oI (by omega) (by decide) (by decide)⟩, trivial⟩, trivial, fun c hc => absurd hc List.not_mem_nil⟩ (by omega) (fun o G1 X1 M1 P1 => ?_)
            obtain ⟨o1, o2⟩ := o
            obtain ⟨rfl, -⟩ := po_c P1
            exact hR _ G1 X1 (f_M_0 M1) (fun u v => cF_M0 M1 u v) (fun z => by omega)
          · skip
            by_cases a5 : 2 < n
            · refine mid_L (k := kcwy_6) ecwy_6 hG hx (xs := [cv (pvR 0), cv (oI i), cv (oI w), cv (oI n)]) (ys := []) ⟨by show 2 ≤ _; omega, ⟨⟨pvR 0, l0, rfl, rfl, ok_0⟩, ⟨oI i, l1, rfl, rfl, ok_full32 _⟩, ⟨oI w, l2, rfl, rfl, ok_full32 _⟩, ⟨oI n, l3, rfl, rfl, ok_oI (by omega) (by decide) (by decide)⟩, trivial⟩, trivial, fun c hc => absurd hc List.not_mem_nil⟩ (by omega) (fun o G1 X1 M1 P1 => ?_)
              obtain ⟨o1, o2⟩ := o
              obtain ⟨rfl, -⟩ := po_c P1
              exact hR _ G1 X1 (f_M_0 M1) (fun u v => cF_M0 M1 u v) (fun z => by omega)
            · skip
              refine mid_L (k := kcwy_a) ecwy_a hG hx (xs := [cv (pvR 0), cv (oI i), cv (oI w), cv (oI n)]) (ys := []) ⟨by show 2 ≤ _; omega, ⟨⟨pvR 0, l0, rfl, rfl, ok_0⟩, ⟨oI i, l1, rfl, rfl, ok_oI (by omega) (by decide) (by decide)⟩, ⟨oI w, l2, rfl, rfl, ok_oI (by omega) (by decide) (by decide)⟩, ⟨oI n, l3, rfl, rfl, ok_oI (by omega) (by decide) (by decide)⟩, trivial⟩, trivial, fun c hc => absurd hc List.not_mem_nil⟩ (by omega) (fun o G1 X1 M1 P1 => ?_)
              obtain ⟨o1, o2⟩ := o
              obtain ⟨z, rfl, hz, ys, hF⟩ := po_i P1
              exact hA _ _ G1 X1 M1 (by omega)
set_option maxHeartbeats 2000000 in
theorem mwy_run {d : Nat} (hd : 1 ≤ d) (hd2 : d ≤ 1000000) {g : pH} (hG : g_I eG g) (hx : xL g) {i w n : Int} (hi : -2147483648 ≤ i ∧ i ≤ 2147483647) (hw : -2147483648 ≤ w ∧ w ≤ 2147483647) (hn : -2147483648 ≤ n ∧ n ≤ 2147483647) {P : Option pv × pH → Prop} (hA : ∀ (v : Int32) (g1 : pH), g_I eG g1 → xL g1 → f_M kmwy_a.2.2.2.1 g g1 → (0 ≤ i ∧ i ≤ 7) ∧ (0 ≤ w ∧ w ≤ 7) ∧ (0 ≤ n ∧ n ≤ 2) → P (some (.inl v), g1)) (hR : ∀ (g1 : pH), g_I eG g1 → xL g1 → f_M kmwy_a.2.2.2.1 g g1 → (∀ u v, cF g1 u v = cF g u v) → ¬ ((0 ≤ i ∧ i ≤ 7) ∧ (0 ≤ w ∧ w ≤ 7) ∧ (0 ≤ n ∧ n ≤ 2)) → P (some (oI (-1)), g1)) {lv : List (Nat × pv)} (l0 : px_lg lv 0 = some (pvR 196)) (l1 : px_lg lv 1 = some (oI i)) (l2 : px_lg lv 2 = some (oI w)) (l3 : px_lg lv 3 = some (oI n)) : t_X d 273 0 lv [] g P := by
  have hJ : J_ 0 g g := J_rf hG
  have hb := cb_m17 hG
  by_cases a0 : i < 0
  · refine mid_L (k := kmwy_1) emwy_1 hG hx (xs := [cv (pvR 196), cv (oI i), cv (oI w), cv (oI n)]) (ys := []) ⟨by show 1 ≤ _; omega, ⟨⟨pvR 196, l0, rfl, rfl, ok_this⟩, ⟨oI i, l1, rfl, rfl, ok_oI (by omega) (by decide) (by decide)⟩, ⟨oI w, l2, rfl, rfl, ok_full32 _⟩, ⟨oI n, l3, rfl, rfl, ok_full32 _⟩, trivial⟩, trivial, fun c hc => absurd hc List.not_mem_nil⟩ (by omega) (fun o G1 X1 M1 P1 => ?_)
    obtain ⟨o1, o2⟩ := o
    obtain ⟨rfl, -⟩ := po_c P1
    exact hR _ G1 X1 (f_M_0 M1) (fun u v => cF_M0 M1 u v) (fun z => by omega)
  · skip
    by_cases a1 : 7 < i
    · refine mid_L (k := kmwy_2) emwy_2 hG hx (xs := [cv (pvR 196), cv (oI i), cv (oI w), cv (oI n)]) (ys := []) ⟨by show 1 ≤ _; omega, ⟨⟨pvR 196, l0, rfl, rfl, ok_this⟩, ⟨oI i, l1, rfl, rfl, ok_oI (by omega) (by decide) (by decide)⟩, ⟨oI w, l2, rfl, rfl, ok_full32 _⟩, ⟨oI n, l3, rfl, rfl, ok_full32 _⟩, trivial⟩, trivial, fun c hc => absurd hc List.not_mem_nil⟩ (by omega) (fun o G1 X1 M1 P1 => ?_)
      obtain ⟨o1, o2⟩ := o
      obtain ⟨rfl, -⟩ := po_c P1
      exact hR _ G1 X1 (f_M_0 M1) (fun u v => cF_M0 M1 u v) (fun z => by omega)
    · skip
      by_cases a2 : w < 0
      · refine mid_L (k := kmwy_3) emwy_3 hG hx (xs := [cv (pvR 196), cv (oI i), cv (oI w), cv (oI n)]) (ys := []) ⟨by show 1 ≤ _; omega, ⟨⟨pvR 196, l0, rfl, rfl, ok_this⟩, ⟨oI i, l1, rfl, rfl, ok_full32 _⟩, ⟨oI w, l2, rfl, rfl, ok_oI (by omega) (by decide) (by decide)⟩, ⟨oI n, l3, rfl, rfl, ok_full32 _⟩, trivial⟩, trivial, fun c hc => absurd hc List.not_mem_nil⟩ (by omega) (fun o G1 X1 M1 P1 => ?_)
        obtain ⟨o1, o2⟩ := o
        obtain ⟨rfl, -⟩ := po_c P1
        exact hR _ G1 X1 (f_M_0 M1) (fun u v => cF_M0 M1 u v) (fun z => by omega)
      · skip
        by_cases a3 : 7 < w
        · refine mid_L (k := kmwy_4) emwy_4 hG hx (xs := [cv (pvR 196), cv (oI i), cv (oI w), cv (oI n)]) (ys := []) ⟨by show 1 ≤ _; omega, ⟨⟨pvR 196, l0, rfl, rfl, ok_this⟩, ⟨oI i, l1, rfl, rfl, ok_full32 _⟩, ⟨oI w, l2, rfl, rfl, ok_oI (by omega) (by decide) (by decide)⟩, ⟨oI n, l3, rfl, rfl, ok_full32 _⟩, trivial⟩, trivial, fun c hc => absurd hc List.not_mem_nil⟩ (by omega) (fun o G1 X1 M1 P1 => ?_)
          obtain ⟨o1, o2⟩ := o
          obtain ⟨rfl, -⟩ := po_c P1
          exact hR _ G1 X1 (f_M_0 M1) (fun u v => cF_M0 M1 u v) (fun z => by omega)
        · skip
          by_cases a4 : n < 0
          · refine mid_L (k := kmwy_5) emwy_5 hG hx (xs := [cv (pvR 196), cv (oI i), cv (oI w), cv (oI n)]) (ys := []) ⟨by show 1 ≤ _; omega, ⟨⟨pvR 196, l0, rfl, rfl, ok_this⟩, ⟨oI i, l1, rfl, rfl, ok_full32 _⟩, ⟨oI w, l2, rfl, rfl, ok_full32 _⟩, ⟨oI n, l3, rfl, rfl, ok_oI (by omega) (by decide) (by decide)⟩, trivial⟩, trivial, fun c hc => absurd hc List.not_mem_nil⟩ (by omega) (fun o G1 X1 M1 P1 => ?_)
            obtain ⟨o1, o2⟩ := o
            obtain ⟨rfl, -⟩ := po_c P1
            exact hR _ G1 X1 (f_M_0 M1) (fun u v => cF_M0 M1 u v) (fun z => by omega)
          · skip
            by_cases a5 : 2 < n
            · refine mid_L (k := kmwy_6) emwy_6 hG hx (xs := [cv (pvR 196), cv (oI i), cv (oI w), cv (oI n)]) (ys := []) ⟨by show 1 ≤ _; omega, ⟨⟨pvR 196, l0, rfl, rfl, ok_this⟩, ⟨oI i, l1, rfl, rfl, ok_full32 _⟩, ⟨oI w, l2, rfl, rfl, ok_full32 _⟩, ⟨oI n, l3, rfl, rfl, ok_oI (by omega) (by decide) (by decide)⟩, trivial⟩, trivial, fun c hc => absurd hc List.not_mem_nil⟩ (by omega) (fun o G1 X1 M1 P1 => ?_)
              obtain ⟨o1, o2⟩ := o
              obtain ⟨rfl, -⟩ := po_c P1
              exact hR _ G1 X1 (f_M_0 M1) (fun u v => cF_M0 M1 u v) (fun z => by omega)
            · skip
              refine mid_L (k := kmwy_a) emwy_a hG hx (xs := [cv (pvR 196), cv (oI i), cv (oI w), cv (oI n)]) (ys := []) ⟨by show 1 ≤ _; omega, ⟨⟨pvR 196, l0, rfl, rfl, ok_this⟩, ⟨oI i, l1, rfl, rfl, ok_oI (by omega) (by decide) (by decide)⟩, ⟨oI w, l2, rfl, rfl, ok_oI (by omega) (by decide) (by decide)⟩, ⟨oI n, l3, rfl, rfl, ok_oI (by omega) (by decide) (by decide)⟩, trivial⟩, trivial, fun c hc => absurd hc List.not_mem_nil⟩ (by omega) (fun o G1 X1 M1 P1 => ?_)
              obtain ⟨o1, o2⟩ := o
              obtain ⟨z, rfl, hz, ys, hF⟩ := po_i P1
              exact hA _ _ G1 X1 M1 (by omega)
set_option maxHeartbeats 2000000 in
theorem csh_run {d : Nat} (hd : 1 ≤ d) (hd2 : d ≤ 1000000) {g : pH} (hG : g_I eG g) (hx : xL g) {i w n : Int} (hi : -2147483648 ≤ i ∧ i ≤ 2147483647) (hw : -2147483648 ≤ w ∧ w ≤ 2147483647) (hn : -2147483648 ≤ n ∧ n ≤ 2147483647) {P : Option pv × pH → Prop} (hA : ∀ (v : Int32) (g1 : pH), g_I eG g1 → xL g1 → f_M kcsh_a.2.2.2.1 g g1 → (0 ≤ i ∧ i ≤ 3) ∧ (0 ≤ w ∧ w ≤ 3) ∧ (0 ≤ n ∧ n ≤ 2) → P (some (.inl v), g1)) (hR : ∀ (g1 : pH), g_I eG g1 → xL g1 → f_M kcsh_a.2.2.2.1 g g1 → (∀ u v, cF g1 u v = cF g u v) → ¬ ((0 ≤ i ∧ i ≤ 3) ∧ (0 ≤ w ∧ w ≤ 3) ∧ (0 ≤ n ∧ n ≤ 2)) → P (some (oI (-1)), g1)) {lv : List (Nat × pv)} (l0 : px_lg lv 0 = some (pvR 0)) (l1 : px_lg lv 1 = some (oI i)) (l2 : px_lg lv 2 = some (oI w)) (l3 : px_lg lv 3 = some (oI n)) : t_X d 145 0 lv [] g P := by
  have hJ : J_ 0 g g := J_rf hG
  have hb := cb_0_1 hG
  by_cases a0 : i < 0
  · refine mid_L (k := kcsh_1) ecsh_1 hG hx (xs := [cv (pvR 0), cv (oI i), cv (oI w), cv (oI n)]) (ys := []) ⟨by show 1 ≤ _; omega, ⟨⟨pvR 0, l0, rfl, rfl, ok_0⟩, ⟨oI i, l1, rfl, rfl, ok_oI (by omega) (by decide) (by decide)⟩, ⟨oI w, l2, rfl, rfl, ok_full32 _⟩, ⟨oI n, l3, rfl, rfl, ok_full32 _⟩, trivial⟩, trivial, fun c hc => absurd hc List.not_mem_nil⟩ (by omega) (fun o G1 X1 M1 P1 => ?_)
    obtain ⟨o1, o2⟩ := o
    obtain ⟨rfl, -⟩ := po_c P1
    exact hR _ G1 X1 (f_M_0 M1) (fun u v => cF_M0 M1 u v) (fun z => by omega)
  · skip
    by_cases a1 : 3 < i
    · refine mid_L (k := kcsh_2) ecsh_2 hG hx (xs := [cv (pvR 0), cv (oI i), cv (oI w), cv (oI n)]) (ys := []) ⟨by show 1 ≤ _; omega, ⟨⟨pvR 0, l0, rfl, rfl, ok_0⟩, ⟨oI i, l1, rfl, rfl, ok_oI (by omega) (by decide) (by decide)⟩, ⟨oI w, l2, rfl, rfl, ok_full32 _⟩, ⟨oI n, l3, rfl, rfl, ok_full32 _⟩, trivial⟩, trivial, fun c hc => absurd hc List.not_mem_nil⟩ (by omega) (fun o G1 X1 M1 P1 => ?_)
      obtain ⟨o1, o2⟩ := o
      obtain ⟨rfl, -⟩ := po_c P1
      exact hR _ G1 X1 (f_M_0 M1) (fun u v => cF_M0 M1 u v) (fun z => by omega)
    · skip
      by_cases a2 : w < 0
      · refine mid_L (k := kcsh_3) ecsh_3 hG hx (xs := [cv (pvR 0), cv (oI i), cv (oI w), cv (oI n)]) (ys := []) ⟨by show 1 ≤ _; omega, ⟨⟨pvR 0, l0, rfl, rfl, ok_0⟩, ⟨oI i, l1, rfl, rfl, ok_full32 _⟩, ⟨oI w, l2, rfl, rfl, ok_oI (by omega) (by decide) (by decide)⟩, ⟨oI n, l3, rfl, rfl, ok_full32 _⟩, trivial⟩, trivial, fun c hc => absurd hc List.not_mem_nil⟩ (by omega) (fun o G1 X1 M1 P1 => ?_)
        obtain ⟨o1, o2⟩ := o
        obtain ⟨rfl, -⟩ := po_c P1
        exact hR _ G1 X1 (f_M_0 M1) (fun u v => cF_M0 M1 u v) (fun z => by omega)
      · skip
        by_cases a3 : 3 < w
        · refine mid_L (k := kcsh_4) ecsh_4 hG hx (xs := [cv (pvR 0), cv (oI i), cv (oI w), cv (oI n)]) (ys := []) ⟨by show 1 ≤ _; omega, ⟨⟨pvR 0, l0, rfl, rfl, ok_0⟩, ⟨oI i, l1, rfl, rfl, ok_full32 _⟩, ⟨oI w, l2, rfl, rfl, ok_oI (by omega) (by decide) (by decide)⟩, ⟨oI n, l3, rfl, rfl, ok_full32 _⟩, trivial⟩, trivial, fun c hc => absurd hc List.not_mem_nil⟩ (by omega) (fun o G1 X1 M1 P1 => ?_)
          obtain ⟨o1, o2⟩ := o
          obtain ⟨rfl, -⟩ := po_c P1
          exact hR _ G1 X1 (f_M_0 M1) (fun u v => cF_M0 M1 u v) (fun z => by omega)
        · skip
          by_cases a4 : n < 0
          · refine mid_L (k := kcsh_5) ecsh_5 hG hx (xs := [cv (pvR 0), cv (oI i), cv (oI w), cv (oI n)]) (ys := []) ⟨by show 1 ≤ _; omega, ⟨⟨pvR 0, l0, rfl, rfl, ok_0⟩, ⟨oI i, l1, rfl, rfl, ok_full32 _⟩, ⟨oI w, l2, rfl, rfl, ok_full32 _⟩, ⟨oI n, l3, rfl, rfl, ok_oI (by omega) (by decide) (by decide)⟩, trivial⟩, trivial, fun c hc => absurd hc List.not_mem_nil⟩ (by omega) (fun o G1 X1 M1 P1 => ?_)
            obtain ⟨o1, o2⟩ := o
            obtain ⟨rfl, -⟩ := po_c P1
            exact hR _ G1 X1 (f_M_0 M1) (fun u v => cF_M0 M1 u v) (fun z => by omega)
          · skip
            by_cases a5 : 2 < n
            · refine mid_L (k := kcsh_6) ecsh_6 hG hx (xs := [cv (pvR 0), cv (oI i), cv (oI w), cv (oI n)]) (ys := []) ⟨by show 1 ≤ _; omega, ⟨⟨pvR 0, l0, rfl, rfl, ok_0⟩, ⟨oI i, l1, rfl, rfl, ok_full32 _⟩, ⟨oI w, l2, rfl, rfl, ok_full32 _⟩, ⟨oI n, l3, rfl, rfl, ok_oI (by omega) (by decide) (by decide)⟩, trivial⟩, trivial, fun c hc => absurd hc List.not_mem_nil⟩ (by omega) (fun o G1 X1 M1 P1 => ?_)
              obtain ⟨o1, o2⟩ := o
              obtain ⟨rfl, -⟩ := po_c P1
              exact hR _ G1 X1 (f_M_0 M1) (fun u v => cF_M0 M1 u v) (fun z => by omega)
            · skip
              refine mid_L (k := kcsh_a) ecsh_a hG hx (xs := [cv (pvR 0), cv (oI i), cv (oI w), cv (oI n)]) (ys := []) ⟨by show 1 ≤ _; omega, ⟨⟨pvR 0, l0, rfl, rfl, ok_0⟩, ⟨oI i, l1, rfl, rfl, ok_oI (by omega) (by decide) (by decide)⟩, ⟨oI w, l2, rfl, rfl, ok_oI (by omega) (by decide) (by decide)⟩, ⟨oI n, l3, rfl, rfl, ok_oI (by omega) (by decide) (by decide)⟩, trivial⟩, trivial, fun c hc => absurd hc List.not_mem_nil⟩ (by omega) (fun o G1 X1 M1 P1 => ?_)
              obtain ⟨o1, o2⟩ := o
              obtain ⟨z, rfl, hz, ys, hF⟩ := po_i P1
              exact hA _ _ G1 X1 M1 (by omega)
set_option maxHeartbeats 2000000 in
theorem msh_run {d : Nat} (hd : 1 ≤ d) (hd2 : d ≤ 1000000) {g : pH} (hG : g_I eG g) (hx : xL g) {i w n : Int} (hi : -2147483648 ≤ i ∧ i ≤ 2147483647) (hw : -2147483648 ≤ w ∧ w ≤ 2147483647) (hn : -2147483648 ≤ n ∧ n ≤ 2147483647) {P : Option pv × pH → Prop} (hA : ∀ (v : Int32) (g1 : pH), g_I eG g1 → xL g1 → f_M kmsh_a.2.2.2.1 g g1 → (0 ≤ i ∧ i ≤ 3) ∧ (0 ≤ w ∧ w ≤ 3) ∧ (0 ≤ n ∧ n ≤ 2) → P (some (.inl v), g1)) (hR : ∀ (g1 : pH), g_I eG g1 → xL g1 → f_M kmsh_a.2.2.2.1 g g1 → (∀ u v, cF g1 u v = cF g u v) → ¬ ((0 ≤ i ∧ i ≤ 3) ∧ (0 ≤ w ∧ w ≤ 3) ∧ (0 ≤ n ∧ n ≤ 2)) → P (some (oI (-1)), g1)) {lv : List (Nat × pv)} (l0 : px_lg lv 0 = some (pvR 196)) (l1 : px_lg lv 1 = some (oI i)) (l2 : px_lg lv 2 = some (oI w)) (l3 : px_lg lv 3 = some (oI n)) : t_X d 246 0 lv [] g P := by
  have hJ : J_ 0 g g := J_rf hG
  have hb := cb_m17 hG
  by_cases a0 : i < 0
  · refine mid_L (k := kmsh_1) emsh_1 hG hx (xs := [cv (pvR 196), cv (oI i), cv (oI w), cv (oI n)]) (ys := []) ⟨by show 1 ≤ _; omega, ⟨⟨pvR 196, l0, rfl, rfl, ok_this⟩, ⟨oI i, l1, rfl, rfl, ok_oI (by omega) (by decide) (by decide)⟩, ⟨oI w, l2, rfl, rfl, ok_full32 _⟩, ⟨oI n, l3, rfl, rfl, ok_full32 _⟩, trivial⟩, trivial, fun c hc => absurd hc List.not_mem_nil⟩ (by omega) (fun o G1 X1 M1 P1 => ?_)
    obtain ⟨o1, o2⟩ := o
    obtain ⟨rfl, -⟩ := po_c P1
    exact hR _ G1 X1 (f_M_0 M1) (fun u v => cF_M0 M1 u v) (fun z => by omega)
  · skip
    by_cases a1 : 3 < i
    · refine mid_L (k := kmsh_2) emsh_2 hG hx (xs := [cv (pvR 196), cv (oI i), cv (oI w), cv (oI n)]) (ys := []) ⟨by show 1 ≤ _; omega, ⟨⟨pvR 196, l0, rfl, rfl, ok_this⟩, ⟨oI i, l1, rfl, rfl, ok_oI (by omega) (by decide) (by decide)⟩, ⟨oI w, l2, rfl, rfl, ok_full32 _⟩, ⟨oI n, l3, rfl, rfl, ok_full32 _⟩, trivial⟩, trivial, fun c hc => absurd hc List.not_mem_nil⟩ (by omega) (fun o G1 X1 M1 P1 => ?_)
      obtain ⟨o1, o2⟩ := o
      obtain ⟨rfl, -⟩ := po_c P1
      exact hR _ G1 X1 (f_M_0 M1) (fun u v => cF_M0 M1 u v) (fun z => by omega)
    · skip
      by_cases a2 : w < 0
      · refine mid_L (k := kmsh_3) emsh_3 hG hx (xs := [cv (pvR 196), cv (oI i), cv (oI w), cv (oI n)]) (ys := []) ⟨by show 1 ≤ _; omega, ⟨⟨pvR 196, l0, rfl, rfl, ok_this⟩, ⟨oI i, l1, rfl, rfl, ok_full32 _⟩, ⟨oI w, l2, rfl, rfl, ok_oI (by omega) (by decide) (by decide)⟩, ⟨oI n, l3, rfl, rfl, ok_full32 _⟩, trivial⟩, trivial, fun c hc => absurd hc List.not_mem_nil⟩ (by omega) (fun o G1 X1 M1 P1 => ?_)
        obtain ⟨o1, o2⟩ := o
        obtain ⟨rfl, -⟩ := po_c P1
        exact hR _ G1 X1 (f_M_0 M1) (fun u v => cF_M0 M1 u v) (fun z => by omega)
      · skip
        by_cases a3 : 3 < w
        · refine mid_L (k := kmsh_4) emsh_4 hG hx (xs := [cv (pvR 196), cv (oI i), cv (oI w), cv (oI n)]) (ys := []) ⟨by show 1 ≤ _; omega, ⟨⟨pvR 196, l0, rfl, rfl, ok_this⟩, ⟨oI i, l1, rfl, rfl, ok_full32 _⟩, ⟨oI w, l2, rfl, rfl, ok_oI (by omega) (by decide) (by decide)⟩, ⟨oI n, l3, rfl, rfl, ok_full32 _⟩, trivial⟩, trivial, fun c hc => absurd hc List.not_mem_nil⟩ (by omega) (fun o G1 X1 M1 P1 => ?_)
          obtain ⟨o1, o2⟩ := o
          obtain ⟨rfl, -⟩ := po_c P1
          exact hR _ G1 X1 (f_M_0 M1) (fun u v => cF_M0 M1 u v) (fun z => by omega)
        · skip
          by_cases a4 : n < 0
          · refine mid_L (k := kmsh_5) emsh_5 hG hx (xs := [cv (pvR 196), cv (oI i), cv (oI w), cv (oI n)]) (ys := []) ⟨by show 1 ≤ _; omega, ⟨⟨pvR 196, l0, rfl, rfl, ok_this⟩, ⟨oI i, l1, rfl, rfl, ok_full32 _⟩, ⟨oI w, l2, rfl, rfl, ok_full32 _⟩, ⟨oI n, l3, rfl, rfl, ok_oI (by omega) (by decide) (by decide)⟩, trivial⟩, trivial, fun c hc => absurd hc List.not_mem_nil⟩ (by omega) (fun o G1 X1 M1 P1 => ?_)
            obtain ⟨o1, o2⟩ := o
            obtain ⟨rfl, -⟩ := po_c P1
            exact hR _ G1 X1 (f_M_0 M1) (fun u v => cF_M0 M1 u v) (fun z => by omega)
          · skip
            by_cases a5 : 2 < n
            · refine mid_L (k := kmsh_6) emsh_6 hG hx (xs := [cv (pvR 196), cv (oI i), cv (oI w), cv (oI n)]) (ys := []) ⟨by show 1 ≤ _; omega, ⟨⟨pvR 196, l0, rfl, rfl, ok_this⟩, ⟨oI i, l1, rfl, rfl, ok_full32 _⟩, ⟨oI w, l2, rfl, rfl, ok_full32 _⟩, ⟨oI n, l3, rfl, rfl, ok_oI (by omega) (by decide) (by decide)⟩, trivial⟩, trivial, fun c hc => absurd hc List.not_mem_nil⟩ (by omega) (fun o G1 X1 M1 P1 => ?_)
              obtain ⟨o1, o2⟩ := o
              obtain ⟨rfl, -⟩ := po_c P1
              exact hR _ G1 X1 (f_M_0 M1) (fun u v => cF_M0 M1 u v) (fun z => by omega)
            · skip
              refine mid_L (k := kmsh_a) emsh_a hG hx (xs := [cv (pvR 196), cv (oI i), cv (oI w), cv (oI n)]) (ys := []) ⟨by show 1 ≤ _; omega, ⟨⟨pvR 196, l0, rfl, rfl, ok_this⟩, ⟨oI i, l1, rfl, rfl, ok_oI (by omega) (by decide) (by decide)⟩, ⟨oI w, l2, rfl, rfl, ok_oI (by omega) (by decide) (by decide)⟩, ⟨oI n, l3, rfl, rfl, ok_oI (by omega) (by decide) (by decide)⟩, trivial⟩, trivial, fun c hc => absurd hc List.not_mem_nil⟩ (by omega) (fun o G1 X1 M1 P1 => ?_)
              obtain ⟨o1, o2⟩ := o
              obtain ⟨z, rfl, hz, ys, hF⟩ := po_i P1
              exact hA _ _ G1 X1 M1 (by omega)
theorem al_ways : (List.range 8).all (fun a => (List.range 8).all (fun b => (List.range 3).all (fun w => pn_2 300 164 273 [oI (a : Int), oI (b : Int), oI (w : Int)] 0))) = true := by decide +kernel
theorem mhv_0 : kcwy_a.2.2.2.1 &&& mR0 = 0 := by decide +kernel
theorem mhv_1 : kmwy_a.2.2.2.1 &&& mR0 = 0 := by decide +kernel
theorem pt_ways {g : pH} (hG : g_I eG g) (hx : xL g) (hR : R0 g) (x1 x2 x3 : Int32) : pr_ R0 164 273 [.inl x1, .inl x2, .inl x3] 0 true g := by
  by_cases hc : (0 ≤ x1.toInt ∧ x1.toInt ≤ 7) ∧ (0 ≤ x2.toInt ∧ x2.toInt ≤ 7) ∧ (0 ≤ x3.toInt ∧ x3.toInt ≤ 2)
  · obtain ⟨a, ha⟩ : ∃ a : Nat, x1.toInt = a := ⟨x1.toInt.toNat, by omega⟩
    obtain ⟨b, hb⟩ : ∃ b : Nat, x2.toInt = b := ⟨x2.toInt.toNat, by omega⟩
    obtain ⟨w, hw⟩ : ∃ w : Nat, x3.toInt = w := ⟨x3.toInt.toNat, by omega⟩
    have h1 := List.all_eq_true.mp (List.all_eq_true.mp (List.all_eq_true.mp al_ways a (List.mem_range.mpr (by omega))) b (List.mem_range.mpr (by omega))) w (List.mem_range.mpr (by omega))
    rw [r_oI ha, r_oI hb, r_oI hw]
    exact pn_pair h1 hG hx hR
  · unfold pr_
    refine cwy_run (i := x1.toInt) (w := x2.toInt) (n := x3.toInt) (by decide) (by decide) hG hx (i32_b _) (i32_b _) (i32_b _) (fun v1 g1 G1 X1 M1 z1 => absurd z1 hc) (fun g1 G1 X1 M1 e1 z1 => ?_) rfl (congrArg some (oI_r x1)) (congrArg some (oI_r x2)) (congrArg some (oI_r x3))
    refine ⟨_, rfl, rfl, mwy_run (i := x1.toInt) (w := x2.toInt) (n := x3.toInt) (by decide) (by decide) G1 X1 (i32_b _) (i32_b _) (i32_b _) (fun v2 g2 G2 X2 M2 z2 => absurd z2 hc) (fun g2 G2 X2 M2 e2 z2 => ?_) rfl (congrArg some (oI_r x1)) (congrArg some (oI_r x2)) (congrArg some (oI_r x3))⟩
    exact ⟨_, rfl, rfl, G2, X2, R0_f M2 mhv_1 (R0_f M1 mhv_0 hR), fun _ => rfl⟩
theorem al_shadow : (List.range 4).all (fun a => (List.range 4).all (fun b => (List.range 3).all (fun w => pn_2 300 145 246 [oI (a : Int), oI (b : Int), oI (w : Int)] 0))) = true := by decide +kernel
theorem mhv_2 : kcsh_a.2.2.2.1 &&& mR0 = 0 := by decide +kernel
theorem mhv_3 : kmsh_a.2.2.2.1 &&& mR0 = 0 := by decide +kernel
theorem pt_shadow {g : pH} (hG : g_I eG g) (hx : xL g) (hR : R0 g) (x1 x2 x3 : Int32) : pr_ R0 145 246 [.inl x1, .inl x2, .inl x3] 0 true g := by
  by_cases hc : (0 ≤ x1.toInt ∧ x1.toInt ≤ 3) ∧ (0 ≤ x2.toInt ∧ x2.toInt ≤ 3) ∧ (0 ≤ x3.toInt ∧ x3.toInt ≤ 2)
  · obtain ⟨a, ha⟩ : ∃ a : Nat, x1.toInt = a := ⟨x1.toInt.toNat, by omega⟩
    obtain ⟨b, hb⟩ : ∃ b : Nat, x2.toInt = b := ⟨x2.toInt.toNat, by omega⟩
    obtain ⟨w, hw⟩ : ∃ w : Nat, x3.toInt = w := ⟨x3.toInt.toNat, by omega⟩
    have h1 := List.all_eq_true.mp (List.all_eq_true.mp (List.all_eq_true.mp al_shadow a (List.mem_range.mpr (by omega))) b (List.mem_range.mpr (by omega))) w (List.mem_range.mpr (by omega))
    rw [r_oI ha, r_oI hb, r_oI hw]
    exact pn_pair h1 hG hx hR
  · unfold pr_
    refine csh_run (i := x1.toInt) (w := x2.toInt) (n := x3.toInt) (by decide) (by decide) hG hx (i32_b _) (i32_b _) (i32_b _) (fun v1 g1 G1 X1 M1 z1 => absurd z1 hc) (fun g1 G1 X1 M1 e1 z1 => ?_) rfl (congrArg some (oI_r x1)) (congrArg some (oI_r x2)) (congrArg some (oI_r x3))
    refine ⟨_, rfl, rfl, msh_run (i := x1.toInt) (w := x2.toInt) (n := x3.toInt) (by decide) (by decide) G1 X1 (i32_b _) (i32_b _) (i32_b _) (fun v2 g2 G2 X2 M2 z2 => absurd z2 hc) (fun g2 G2 X2 M2 e2 z2 => ?_) rfl (congrArg some (oI_r x1)) (congrArg some (oI_r x2)) (congrArg some (oI_r x3))⟩
    exact ⟨_, rfl, rfl, G2, X2, R0_f M2 mhv_3 (R0_f M1 mhv_2 hR), fun _ => rfl⟩
end
section
/-! the tie: answers of lamp, reckoned whole (printed by wip/e2/t19.py) -/
theorem po_lc {ρ : List Int} {o1 : Option pv} {o2 : pH} {c : Int} {F : List eSF} {C : List eT} (h : ∃ p ∈ [((some (1, (c, c, [])), F, C) : eP)], ∃ zs, m_P p ρ o1 o2 zs) : o1 = some (.inr (.inl (Int64.ofInt c))) := by
  obtain ⟨p, hp, zs, hz⟩ := h
  obtain rfl := List.mem_singleton.mp hp
  obtain ⟨⟨v, x, ys, e1, ⟨e2, e3, e4⟩, -, e6⟩, -⟩ := hz
  obtain ⟨z, rfl⟩ := ct_1 e2
  subst e3
  have q1 : c ≤ z.toInt := e4.1
  have q2 : z.toInt ≤ c := e4.2.1
  rw [e1, show c = z.toInt by omega, Int64.ofInt_toInt]
def kcla9_1 : eK := (127, (3, [(0, 2, (0, 100000, [1])), (1, 0, ((-2147483648), (-1), [])), (2, 0, ((-2147483648), 2147483647, [])), (3, 0, ((-2147483648), 2147483647, []))], [], []), (0, []), 0, [(some (1, ((-1), (-1), [])), [], [])])
theorem ecla9_1 : ex_mid eG eKT eDX 4000 kcla9_1 [] 0 = true := by decide +kernel
def kcla9_2 : eK := (127, (3, [(0, 2, (0, 100000, [1])), (1, 0, (11, 2147483647, [])), (2, 0, ((-2147483648), 2147483647, [])), (3, 0, ((-2147483648), 2147483647, []))], [], []), (0, []), 0, [(some (1, ((-1), (-1), [])), [], [])])
theorem ecla9_2 : ex_mid eG eKT eDX 4000 kcla9_2 [] 0 = true := by decide +kernel
def kcla9_3 : eK := (127, (3, [(0, 2, (0, 100000, [1])), (1, 0, ((-2147483648), 2147483647, [])), (2, 0, ((-2147483648), 0, [])), (3, 0, ((-2147483648), 2147483647, []))], [], []), (0, []), 0, [(some (1, ((-1), (-1), [])), [], [])])
theorem ecla9_3 : ex_mid eG eKT eDX 4000 kcla9_3 [] 0 = true := by decide +kernel
def kcla9_4 : eK := (127, (3, [(0, 2, (0, 100000, [1])), (1, 0, ((-2147483648), 2147483647, [])), (2, 0, (16, 2147483647, [])), (3, 0, ((-2147483648), 2147483647, []))], [], []), (0, []), 0, [(some (1, ((-1), (-1), [])), [], [])])
theorem ecla9_4 : ex_mid eG eKT eDX 4000 kcla9_4 [] 0 = true := by decide +kernel
def kcla9_5 : eK := (127, (3, [(0, 2, (0, 100000, [1])), (1, 0, ((-2147483648), 2147483647, [])), (2, 0, ((-2147483648), 2147483647, [])), (3, 0, ((-2147483648), (-1), []))], [], []), (0, []), 0, [(some (1, ((-1), (-1), [])), [], [])])
theorem ecla9_5 : ex_mid eG eKT eDX 4000 kcla9_5 [] 0 = true := by decide +kernel
def kcla9_6 : eK := (127, (3, [(0, 2, (0, 100000, [1])), (1, 0, ((-2147483648), 2147483647, [])), (2, 0, ((-2147483648), 2147483647, [])), (3, 0, (2, 2147483647, []))], [], []), (0, []), 0, [(some (1, ((-1), (-1), [])), [], [])])
theorem ecla9_6 : ex_mid eG eKT eDX 4000 kcla9_6 [] 0 = true := by decide +kernel
def kcla9_a : eK := (127, (3, [(0, 2, (0, 100000, [1])), (1, 0, (0, 10, [])), (2, 0, (1, 15, [])), (3, 0, (0, 1, []))], [], []), (0, []), 0, [(some (1, ((-9223372036854775808), 9223372036854775807, [])), [], [])])
theorem ecla9_a : ex_mid eG eKT eDX 4000 kcla9_a [] 0 = true := by decide +kernel
def kmla9_1 : eK := (210, (5, [(0, 2, (0, 100000, [197])), (1, 0, ((-2147483648), (-1), [])), (2, 0, ((-2147483648), 2147483647, [])), (3, 0, ((-2147483648), 2147483647, []))], [], []), (0, []), 0, [(some (1, ((-1), (-1), [])), [], [])])
theorem emla9_1 : ex_mid eG eKT eDX 4000 kmla9_1 [] 0 = true := by decide +kernel
def kmla9_2 : eK := (210, (5, [(0, 2, (0, 100000, [197])), (1, 0, (11, 2147483647, [])), (2, 0, ((-2147483648), 2147483647, [])), (3, 0, ((-2147483648), 2147483647, []))], [], []), (0, []), 0, [(some (1, ((-1), (-1), [])), [], [])])
theorem emla9_2 : ex_mid eG eKT eDX 4000 kmla9_2 [] 0 = true := by decide +kernel
def kmla9_3 : eK := (210, (5, [(0, 2, (0, 100000, [197])), (1, 0, ((-2147483648), 2147483647, [])), (2, 0, ((-2147483648), 0, [])), (3, 0, ((-2147483648), 2147483647, []))], [], []), (0, []), 0, [(some (1, ((-1), (-1), [])), [], [])])
theorem emla9_3 : ex_mid eG eKT eDX 4000 kmla9_3 [] 0 = true := by decide +kernel
def kmla9_4 : eK := (210, (5, [(0, 2, (0, 100000, [197])), (1, 0, ((-2147483648), 2147483647, [])), (2, 0, (16, 2147483647, [])), (3, 0, ((-2147483648), 2147483647, []))], [], []), (0, []), 0, [(some (1, ((-1), (-1), [])), [], [])])
theorem emla9_4 : ex_mid eG eKT eDX 4000 kmla9_4 [] 0 = true := by decide +kernel
def kmla9_5 : eK := (210, (5, [(0, 2, (0, 100000, [197])), (1, 0, ((-2147483648), 2147483647, [])), (2, 0, ((-2147483648), 2147483647, [])), (3, 0, ((-2147483648), (-1), []))], [], []), (0, []), 0, [(some (1, ((-1), (-1), [])), [], [])])
theorem emla9_5 : ex_mid eG eKT eDX 4000 kmla9_5 [] 0 = true := by decide +kernel
def kmla9_6 : eK := (210, (5, [(0, 2, (0, 100000, [197])), (1, 0, ((-2147483648), 2147483647, [])), (2, 0, ((-2147483648), 2147483647, [])), (3, 0, (2, 2147483647, []))], [], []), (0, []), 0, [(some (1, ((-1), (-1), [])), [], [])])
theorem emla9_6 : ex_mid eG eKT eDX 4000 kmla9_6 [] 0 = true := by decide +kernel
def kmla9_a : eK := (210, (5, [(0, 2, (0, 100000, [197])), (1, 0, (0, 10, [])), (2, 0, (1, 15, [])), (3, 0, (0, 1, []))], [], []), (0, []), 0, [(some (1, ((-9223372036854775808), 9223372036854775807, [])), [], [])])
theorem emla9_a : ex_mid eG eKT eDX 4000 kmla9_a [] 0 = true := by decide +kernel
set_option maxHeartbeats 2000000 in
theorem cla9_run {d : Nat} (hd : 3 ≤ d) (hd2 : d ≤ 1000000) {g : pH} (hG : g_I eG g) (hx : xL g) {i w n : Int} (hi : -2147483648 ≤ i ∧ i ≤ 2147483647) (hw : -2147483648 ≤ w ∧ w ≤ 2147483647) (hn : -2147483648 ≤ n ∧ n ≤ 2147483647) {P : Option pv × pH → Prop} (hA : ∀ (v : Int64) (g1 : pH), g_I eG g1 → xL g1 → f_M kcla9_a.2.2.2.1 g g1 → (0 ≤ i ∧ i ≤ 10) ∧ (1 ≤ w ∧ w ≤ 15) ∧ (0 ≤ n ∧ n ≤ 1) → P (some (.inr (.inl v)), g1)) (hR : ∀ (g1 : pH), g_I eG g1 → xL g1 → f_M kcla9_a.2.2.2.1 g g1 → (∀ u v, cF g1 u v = cF g u v) → ¬ ((0 ≤ i ∧ i ≤ 10) ∧ (1 ≤ w ∧ w ≤ 15) ∧ (0 ≤ n ∧ n ≤ 1)) → P (some (.inr (.inl (Int64.ofInt (-1)))), g1)) {lv : List (Nat × pv)} (l0 : px_lg lv 0 = some (pvR 0)) (l1 : px_lg lv 1 = some (oI i)) (l2 : px_lg lv 2 = some (oI w)) (l3 : px_lg lv 3 = some (oI n)) : t_X d 127 0 lv [] g P := by
  have hJ : J_ 0 g g := J_rf hG
  have hb := cb_0_1 hG
  by_cases a0 : i < 0
  · refine mid_L (k := kcla9_1) ecla9_1 hG hx (xs := [cv (pvR 0), cv (oI i), cv (oI w), cv (oI n)]) (ys := []) ⟨by show 3 ≤ _; omega, ⟨⟨pvR 0, l0, rfl, rfl, ok_0⟩, ⟨oI i, l1, rfl, rfl, ok_oI (by omega) (by decide) (by decide)⟩, ⟨oI w, l2, rfl, rfl, ok_full32 _⟩, ⟨oI n, l3, rfl, rfl, ok_full32 _⟩, trivial⟩, trivial, fun c hc => absurd hc List.not_mem_nil⟩ (by omega) (fun o G1 X1 M1 P1 => ?_)
    obtain ⟨o1, o2⟩ := o
    obtain rfl := po_lc P1
    exact hR _ G1 X1 (f_M_0 M1) (fun u v => cF_M0 M1 u v) (fun z => by omega)
  · skip
    by_cases a1 : 10 < i
    · refine mid_L (k := kcla9_2) ecla9_2 hG hx (xs := [cv (pvR 0), cv (oI i), cv (oI w), cv (oI n)]) (ys := []) ⟨by show 3 ≤ _; omega, ⟨⟨pvR 0, l0, rfl, rfl, ok_0⟩, ⟨oI i, l1, rfl, rfl, ok_oI (by omega) (by decide) (by decide)⟩, ⟨oI w, l2, rfl, rfl, ok_full32 _⟩, ⟨oI n, l3, rfl, rfl, ok_full32 _⟩, trivial⟩, trivial, fun c hc => absurd hc List.not_mem_nil⟩ (by omega) (fun o G1 X1 M1 P1 => ?_)
      obtain ⟨o1, o2⟩ := o
      obtain rfl := po_lc P1
      exact hR _ G1 X1 (f_M_0 M1) (fun u v => cF_M0 M1 u v) (fun z => by omega)
    · skip
      by_cases a2 : w < 1
      · refine mid_L (k := kcla9_3) ecla9_3 hG hx (xs := [cv (pvR 0), cv (oI i), cv (oI w), cv (oI n)]) (ys := []) ⟨by show 3 ≤ _; omega, ⟨⟨pvR 0, l0, rfl, rfl, ok_0⟩, ⟨oI i, l1, rfl, rfl, ok_full32 _⟩, ⟨oI w, l2, rfl, rfl, ok_oI (by omega) (by decide) (by decide)⟩, ⟨oI n, l3, rfl, rfl, ok_full32 _⟩, trivial⟩, trivial, fun c hc => absurd hc List.not_mem_nil⟩ (by omega) (fun o G1 X1 M1 P1 => ?_)
        obtain ⟨o1, o2⟩ := o
        obtain rfl := po_lc P1
        exact hR _ G1 X1 (f_M_0 M1) (fun u v => cF_M0 M1 u v) (fun z => by omega)
      · skip
        by_cases a3 : 15 < w
        · refine mid_L (k := kcla9_4) ecla9_4 hG hx (xs := [cv (pvR 0), cv (oI i), cv (oI w), cv (oI n)]) (ys := []) ⟨by show 3 ≤ _; omega, ⟨⟨pvR 0, l0, rfl, rfl, ok_0⟩, ⟨oI i, l1, rfl, rfl, ok_full32 _⟩, ⟨oI w, l2, rfl, rfl, ok_oI (by omega) (by decide) (by decide)⟩, ⟨oI n, l3, rfl, rfl, ok_full32 _⟩, trivial⟩, trivial, fun c hc => absurd hc List.not_mem_nil⟩ (by omega) (fun o G1 X1 M1 P1 => ?_)
          obtain ⟨o1, o2⟩ := o
          obtain rfl := po_lc P1
          exact hR _ G1 X1 (f_M_0 M1) (fun u v => cF_M0 M1 u v) (fun z => by omega)
        · skip
          by_cases a4 : n < 0
          · refine mid_L (k := kcla9_5) ecla9_5 hG hx (xs := [cv (pvR 0), cv (oI i), cv (oI w), cv (oI n)]) (ys := []) ⟨by show 3 ≤ _; omega, ⟨⟨pvR 0, l0, rfl, rfl, ok_0⟩, ⟨oI i, l1, rfl, rfl, ok_full32 _⟩, ⟨oI w, l2, rfl, rfl, ok_full32 _⟩, ⟨oI n, l3, rfl, rfl, ok_oI (by omega) (by decide) (by decide)⟩, trivial⟩, trivial, fun c hc => absurd hc List.not_mem_nil⟩ (by omega) (fun o G1 X1 M1 P1 => ?_)
            obtain ⟨o1, o2⟩ := o
            obtain rfl := po_lc P1
            exact hR _ G1 X1 (f_M_0 M1) (fun u v => cF_M0 M1 u v) (fun z => by omega)
          · skip
            by_cases a5 : 1 < n
            · refine mid_L (k := kcla9_6) ecla9_6 hG hx (xs := [cv (pvR 0), cv (oI i), cv (oI w), cv (oI n)]) (ys := []) ⟨by show 3 ≤ _; omega, ⟨⟨pvR 0, l0, rfl, rfl, ok_0⟩, ⟨oI i, l1, rfl, rfl, ok_full32 _⟩, ⟨oI w, l2, rfl, rfl, ok_full32 _⟩, ⟨oI n, l3, rfl, rfl, ok_oI (by omega) (by decide) (by decide)⟩, trivial⟩, trivial, fun c hc => absurd hc List.not_mem_nil⟩ (by omega) (fun o G1 X1 M1 P1 => ?_)
              obtain ⟨o1, o2⟩ := o
              obtain rfl := po_lc P1
              exact hR _ G1 X1 (f_M_0 M1) (fun u v => cF_M0 M1 u v) (fun z => by omega)
            · skip
              refine mid_L (k := kcla9_a) ecla9_a hG hx (xs := [cv (pvR 0), cv (oI i), cv (oI w), cv (oI n)]) (ys := []) ⟨by show 3 ≤ _; omega, ⟨⟨pvR 0, l0, rfl, rfl, ok_0⟩, ⟨oI i, l1, rfl, rfl, ok_oI (by omega) (by decide) (by decide)⟩, ⟨oI w, l2, rfl, rfl, ok_oI (by omega) (by decide) (by decide)⟩, ⟨oI n, l3, rfl, rfl, ok_oI (by omega) (by decide) (by decide)⟩, trivial⟩, trivial, fun c hc => absurd hc List.not_mem_nil⟩ (by omega) (fun o G1 X1 M1 P1 => ?_)
              obtain ⟨o1, o2⟩ := o
              obtain ⟨z, rfl, ys, hF⟩ := po_l P1
              exact hA _ _ G1 X1 M1 (by omega)
set_option maxHeartbeats 2000000 in
theorem mla9_run {d : Nat} (hd : 5 ≤ d) (hd2 : d ≤ 1000000) {g : pH} (hG : g_I eG g) (hx : xL g) {i w n : Int} (hi : -2147483648 ≤ i ∧ i ≤ 2147483647) (hw : -2147483648 ≤ w ∧ w ≤ 2147483647) (hn : -2147483648 ≤ n ∧ n ≤ 2147483647) {P : Option pv × pH → Prop} (hA : ∀ (v : Int64) (g1 : pH), g_I eG g1 → xL g1 → f_M kmla9_a.2.2.2.1 g g1 → (0 ≤ i ∧ i ≤ 10) ∧ (1 ≤ w ∧ w ≤ 15) ∧ (0 ≤ n ∧ n ≤ 1) → P (some (.inr (.inl v)), g1)) (hR : ∀ (g1 : pH), g_I eG g1 → xL g1 → f_M kmla9_a.2.2.2.1 g g1 → (∀ u v, cF g1 u v = cF g u v) → ¬ ((0 ≤ i ∧ i ≤ 10) ∧ (1 ≤ w ∧ w ≤ 15) ∧ (0 ≤ n ∧ n ≤ 1)) → P (some (.inr (.inl (Int64.ofInt (-1)))), g1)) {lv : List (Nat × pv)} (l0 : px_lg lv 0 = some (pvR 196)) (l1 : px_lg lv 1 = some (oI i)) (l2 : px_lg lv 2 = some (oI w)) (l3 : px_lg lv 3 = some (oI n)) : t_X d 210 0 lv [] g P := by
  have hJ : J_ 0 g g := J_rf hG
  have hb := cb_m17 hG
  by_cases a0 : i < 0
  · refine mid_L (k := kmla9_1) emla9_1 hG hx (xs := [cv (pvR 196), cv (oI i), cv (oI w), cv (oI n)]) (ys := []) ⟨by show 5 ≤ _; omega, ⟨⟨pvR 196, l0, rfl, rfl, ok_this⟩, ⟨oI i, l1, rfl, rfl, ok_oI (by omega) (by decide) (by decide)⟩, ⟨oI w, l2, rfl, rfl, ok_full32 _⟩, ⟨oI n, l3, rfl, rfl, ok_full32 _⟩, trivial⟩, trivial, fun c hc => absurd hc List.not_mem_nil⟩ (by omega) (fun o G1 X1 M1 P1 => ?_)
    obtain ⟨o1, o2⟩ := o
    obtain rfl := po_lc P1
    exact hR _ G1 X1 (f_M_0 M1) (fun u v => cF_M0 M1 u v) (fun z => by omega)
  · skip
    by_cases a1 : 10 < i
    · refine mid_L (k := kmla9_2) emla9_2 hG hx (xs := [cv (pvR 196), cv (oI i), cv (oI w), cv (oI n)]) (ys := []) ⟨by show 5 ≤ _; omega, ⟨⟨pvR 196, l0, rfl, rfl, ok_this⟩, ⟨oI i, l1, rfl, rfl, ok_oI (by omega) (by decide) (by decide)⟩, ⟨oI w, l2, rfl, rfl, ok_full32 _⟩, ⟨oI n, l3, rfl, rfl, ok_full32 _⟩, trivial⟩, trivial, fun c hc => absurd hc List.not_mem_nil⟩ (by omega) (fun o G1 X1 M1 P1 => ?_)
      obtain ⟨o1, o2⟩ := o
      obtain rfl := po_lc P1
      exact hR _ G1 X1 (f_M_0 M1) (fun u v => cF_M0 M1 u v) (fun z => by omega)
    · skip
      by_cases a2 : w < 1
      · refine mid_L (k := kmla9_3) emla9_3 hG hx (xs := [cv (pvR 196), cv (oI i), cv (oI w), cv (oI n)]) (ys := []) ⟨by show 5 ≤ _; omega, ⟨⟨pvR 196, l0, rfl, rfl, ok_this⟩, ⟨oI i, l1, rfl, rfl, ok_full32 _⟩, ⟨oI w, l2, rfl, rfl, ok_oI (by omega) (by decide) (by decide)⟩, ⟨oI n, l3, rfl, rfl, ok_full32 _⟩, trivial⟩, trivial, fun c hc => absurd hc List.not_mem_nil⟩ (by omega) (fun o G1 X1 M1 P1 => ?_)
        obtain ⟨o1, o2⟩ := o
        obtain rfl := po_lc P1
        exact hR _ G1 X1 (f_M_0 M1) (fun u v => cF_M0 M1 u v) (fun z => by omega)
      · skip
        by_cases a3 : 15 < w
        · refine mid_L (k := kmla9_4) emla9_4 hG hx (xs := [cv (pvR 196), cv (oI i), cv (oI w), cv (oI n)]) (ys := []) ⟨by show 5 ≤ _; omega, ⟨⟨pvR 196, l0, rfl, rfl, ok_this⟩, ⟨oI i, l1, rfl, rfl, ok_full32 _⟩, ⟨oI w, l2, rfl, rfl, ok_oI (by omega) (by decide) (by decide)⟩, ⟨oI n, l3, rfl, rfl, ok_full32 _⟩, trivial⟩, trivial, fun c hc => absurd hc List.not_mem_nil⟩ (by omega) (fun o G1 X1 M1 P1 => ?_)
          obtain ⟨o1, o2⟩ := o
          obtain rfl := po_lc P1
          exact hR _ G1 X1 (f_M_0 M1) (fun u v => cF_M0 M1 u v) (fun z => by omega)
        · skip
          by_cases a4 : n < 0
          · refine mid_L (k := kmla9_5) emla9_5 hG hx (xs := [cv (pvR 196), cv (oI i), cv (oI w), cv (oI n)]) (ys := []) ⟨by show 5 ≤ _; omega, ⟨⟨pvR 196, l0, rfl, rfl, ok_this⟩, ⟨oI i, l1, rfl, rfl, ok_full32 _⟩, ⟨oI w, l2, rfl, rfl, ok_full32 _⟩, ⟨oI n, l3, rfl, rfl, ok_oI (by omega) (by decide) (by decide)⟩, trivial⟩, trivial, fun c hc => absurd hc List.not_mem_nil⟩ (by omega) (fun o G1 X1 M1 P1 => ?_)
            obtain ⟨o1, o2⟩ := o
            obtain rfl := po_lc P1
            exact hR _ G1 X1 (f_M_0 M1) (fun u v => cF_M0 M1 u v) (fun z => by omega)
          · skip
            by_cases a5 : 1 < n
            · refine mid_L (k := kmla9_6) emla9_6 hG hx (xs := [cv (pvR 196), cv (oI i), cv (oI w), cv (oI n)]) (ys := []) ⟨by show 5 ≤ _; omega, ⟨⟨pvR 196, l0, rfl, rfl, ok_this⟩, ⟨oI i, l1, rfl, rfl, ok_full32 _⟩, ⟨oI w, l2, rfl, rfl, ok_full32 _⟩, ⟨oI n, l3, rfl, rfl, ok_oI (by omega) (by decide) (by decide)⟩, trivial⟩, trivial, fun c hc => absurd hc List.not_mem_nil⟩ (by omega) (fun o G1 X1 M1 P1 => ?_)
              obtain ⟨o1, o2⟩ := o
              obtain rfl := po_lc P1
              exact hR _ G1 X1 (f_M_0 M1) (fun u v => cF_M0 M1 u v) (fun z => by omega)
            · skip
              refine mid_L (k := kmla9_a) emla9_a hG hx (xs := [cv (pvR 196), cv (oI i), cv (oI w), cv (oI n)]) (ys := []) ⟨by show 5 ≤ _; omega, ⟨⟨pvR 196, l0, rfl, rfl, ok_this⟩, ⟨oI i, l1, rfl, rfl, ok_oI (by omega) (by decide) (by decide)⟩, ⟨oI w, l2, rfl, rfl, ok_oI (by omega) (by decide) (by decide)⟩, ⟨oI n, l3, rfl, rfl, ok_oI (by omega) (by decide) (by decide)⟩, trivial⟩, trivial, fun c hc => absurd hc List.not_mem_nil⟩ (by omega) (fun o G1 X1 M1 P1 => ?_)
              obtain ⟨o1, o2⟩ := o
              obtain ⟨z, rfl, ys, hF⟩ := po_l P1
              exact hA _ _ G1 X1 M1 (by omega)
theorem al_lamp0 : (List.range 15).all (fun b => (List.range 2).all (fun w => pn_2 2000 127 210 [oI 0, oI ((b : Int) + 1), oI (w : Int)] 1)) = true := by decide +kernel
theorem al_lamp1 : (List.range 15).all (fun b => (List.range 2).all (fun w => pn_2 2000 127 210 [oI 1, oI ((b : Int) + 1), oI (w : Int)] 1)) = true := by decide +kernel
theorem al_lamp2 : (List.range 15).all (fun b => (List.range 2).all (fun w => pn_2 2000 127 210 [oI 2, oI ((b : Int) + 1), oI (w : Int)] 1)) = true := by decide +kernel
theorem al_lamp3 : (List.range 15).all (fun b => (List.range 2).all (fun w => pn_2 2000 127 210 [oI 3, oI ((b : Int) + 1), oI (w : Int)] 1)) = true := by decide +kernel
theorem al_lamp4 : (List.range 15).all (fun b => (List.range 2).all (fun w => pn_2 2000 127 210 [oI 4, oI ((b : Int) + 1), oI (w : Int)] 1)) = true := by decide +kernel
theorem al_lamp5 : (List.range 15).all (fun b => (List.range 2).all (fun w => pn_2 2000 127 210 [oI 5, oI ((b : Int) + 1), oI (w : Int)] 1)) = true := by decide +kernel
theorem al_lamp6 : (List.range 15).all (fun b => (List.range 2).all (fun w => pn_2 2000 127 210 [oI 6, oI ((b : Int) + 1), oI (w : Int)] 1)) = true := by decide +kernel
theorem al_lamp7 : (List.range 15).all (fun b => (List.range 2).all (fun w => pn_2 2000 127 210 [oI 7, oI ((b : Int) + 1), oI (w : Int)] 1)) = true := by decide +kernel
theorem al_lamp8 : (List.range 15).all (fun b => (List.range 2).all (fun w => pn_2 2000 127 210 [oI 8, oI ((b : Int) + 1), oI (w : Int)] 1)) = true := by decide +kernel
theorem al_lamp9 : (List.range 15).all (fun b => (List.range 2).all (fun w => pn_2 2000 127 210 [oI 9, oI ((b : Int) + 1), oI (w : Int)] 1)) = true := by decide +kernel
theorem al_lamp10 : (List.range 15).all (fun b => (List.range 2).all (fun w => pn_2 2000 127 210 [oI 10, oI ((b : Int) + 1), oI (w : Int)] 1)) = true := by decide +kernel
theorem al_lamp : ∀ a : Nat, a < 11 → ∀ b : Nat, b < 15 → ∀ w : Nat, w < 2 → pn_2 2000 127 210 [oI (a : Int), oI ((b : Int) + 1), oI (w : Int)] 1 = true := by
  intro a ha b hb w hw
  have hu : ∀ {k : Int}, (List.range 15).all (fun b => (List.range 2).all (fun w => pn_2 2000 127 210 [oI k, oI ((b : Int) + 1), oI (w : Int)] 1)) = true → pn_2 2000 127 210 [oI k, oI ((b : Int) + 1), oI (w : Int)] 1 = true := fun h => List.all_eq_true.mp (List.all_eq_true.mp h b (List.mem_range.mpr hb)) w (List.mem_range.mpr hw)
  match a, ha with
  | 0, _ => exact hu al_lamp0
  | 1, _ => exact hu al_lamp1
  | 2, _ => exact hu al_lamp2
  | 3, _ => exact hu al_lamp3
  | 4, _ => exact hu al_lamp4
  | 5, _ => exact hu al_lamp5
  | 6, _ => exact hu al_lamp6
  | 7, _ => exact hu al_lamp7
  | 8, _ => exact hu al_lamp8
  | 9, _ => exact hu al_lamp9
  | 10, _ => exact hu al_lamp10
  | n + 11, h => exact absurd h (by omega)
theorem mvl_0 : kcla9_a.2.2.2.1 &&& mR0 = 0 := by decide +kernel
theorem mvl_1 : kmla9_a.2.2.2.1 &&& mR0 = 0 := by decide +kernel
theorem pt_lamp {g : pH} (hG : g_I eG g) (hx : xL g) (hR : R0 g) (x1 x2 x3 : Int32) : pr_ R0 127 210 [.inl x1, .inl x2, .inl x3] 1 true g := by
  by_cases hc : (0 ≤ x1.toInt ∧ x1.toInt ≤ 10) ∧ (1 ≤ x2.toInt ∧ x2.toInt ≤ 15) ∧ (0 ≤ x3.toInt ∧ x3.toInt ≤ 1)
  · obtain ⟨a, ha⟩ : ∃ a : Nat, x1.toInt = a := ⟨x1.toInt.toNat, by omega⟩
    obtain ⟨b, hb⟩ : ∃ b : Nat, x2.toInt = (b : Int) + 1 := ⟨x2.toInt.toNat - 1, by omega⟩
    obtain ⟨w, hw⟩ : ∃ w : Nat, x3.toInt = w := ⟨x3.toInt.toNat, by omega⟩
    have h1 := al_lamp a (by omega) b (by omega) w (by omega)
    have hb2 : x2 = Int32.ofInt ((b : Int) + 1) := by rw [← hb]; exact (Int32.ofInt_toInt x2).symm
    rw [r_oI ha, hb2, r_oI hw]
    exact pn_pair h1 hG hx hR
  · unfold pr_
    refine cla9_run (i := x1.toInt) (w := x2.toInt) (n := x3.toInt) (by decide) (by decide) hG hx (i32_b _) (i32_b _) (i32_b _) (fun v1 g1 G1 X1 M1 z1 => absurd z1 hc) (fun g1 G1 X1 M1 e1 z1 => ?_) rfl (congrArg some (oI_r x1)) (congrArg some (oI_r x2)) (congrArg some (oI_r x3))
    refine ⟨_, rfl, rfl, mla9_run (i := x1.toInt) (w := x2.toInt) (n := x3.toInt) (by decide) (by decide) G1 X1 (i32_b _) (i32_b _) (i32_b _) (fun v2 g2 G2 X2 M2 z2 => absurd z2 hc) (fun g2 G2 X2 M2 e2 z2 => ?_) rfl (congrArg some (oI_r x1)) (congrArg some (oI_r x2)) (congrArg some (oI_r x3))⟩
    exact ⟨_, rfl, rfl, G2, X2, R0_f M2 mvl_1 (R0_f M1 mvl_0 hR), fun _ => rfl⟩
theorem lg_same (a : Int64) : lg_cmp a a = 0 := by
  have h1 := (lg_cmp_v a a).2.mpr (by omega)
  exact Int32.toInt_inj.mp (by rw [h1]; decide)
end
