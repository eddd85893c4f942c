/-! the reckoner's steps are right: ways on, stores into the frame, stores into the world, new cells -/
theorem xe_tg_ok {pc : Nat} {f : Int} {k : Nat → Option (List Nat × List xe_v)} {r : List Nat × List xe_v} (h : xe_tg pc f k = some r) : ∃ t : Nat, (pc : Int) + f = (t : Int) ∧ k t = some r := by
  unfold xe_tg at h
  split at h
  · next q =>
    rw [xe_f_eq] at h
    exact ⟨_, (Int.toNat_of_nonneg q).symm, h⟩
  · cases h
theorem xe_i0 : xe_i (0 : Int32) = 2147483648 := by decide +kernel
section XSTEP
variable {p : Program} {l : Launch} {e : Env} {R : Room} {s : State} {m : MethodId} {args : Array Value} {below : List Frame} {meth : Method} {c : Code} {H : Heap} {locs : List Loc} {cells slots : Nat} {Q : State → Prop}
variable {D : va_G} {E : Nat → ClassId} {A : Nat → Prop} {b : Nat} {as : List Nat} {ws : va_W} {σ : xe_h} {sc : List xe_v} {d μ : Nat}
set_option maxHeartbeats 8000000 in
theorem xe_br_ok {pc : Nat} {q : xe_I} {st : List xe_v} {ts : List Nat × List xe_v} {stc : List Value} {ls : Array Slot} (X : xe_X p R s m args meth c D E A b sc d μ) (hk : xe_chk μ q pc = true) (hw : xe_w b as st stc) (h : xe_br q.1 pc st = some ts)
    (kk : ∀ t ∈ ts.1, ∀ st3, xe_w b as ts.2 st3 → W p l e R s m args below meth c H locs cells slots Q (F0 m t ls st3)) : W p l e R s m args below meth c H locs cells slots Q (F0 m pc ls stc) := by
  obtain ⟨I, len, x, y, z⟩ := q
  unfold xe_chk at hk
  dsimp only at h hk
  rw [Bool.and_eq_true, Bool.and_eq_true] at hk
  obtain ⟨⟨hlen, hdg0⟩, hcw⟩ := hk
  have hdg := of_decide_eq_true hdg0
  clear hdg0
  obtain ⟨⟨hx, hb, hml, hown, hret, hnm, hlk⟩, -⟩ := X
  have z1 : (xe_n 2147483648).2.1 ≤ xe_i (0 : Int32) := by rw [xe_i0]; exact Nat.le_refl _
  have z2 : xe_i (0 : Int32) ≤ (xe_n 2147483648).2.2 := by rw [xe_i0]; exact Nat.le_refl _
  unfold xe_br xe_bf at h
  split at h <;> (try dsimp only at h)
  · have hlen : len = 3 := xe_l1 hlen rfl (by decide)
    subst hlen
    obtain ⟨t, ht, h1⟩ := xe_tg_ok h
    cases h1
    exact lv_goto hx hb hdg ht (kk t List.mem_cons_self _ hw)
  · have hlen : len = 3 := xe_l1 hlen rfl (by decide)
    subst hlen
    split at h
    · next a r =>
      obtain ⟨v, m2, rfl, hg, hm⟩ := xe_w_cons hw
      split at h
      · next t0 =>
        obtain ⟨x0, rfl, q1, q2⟩ := xe_g0 t0 hg
        obtain ⟨t, ht, h1⟩ := xe_tg_ok h
        cases h1
        dsimp only at kk
        cases ‹Jvm.ClassFile.Cond› with
        | eq => exact xe_two_ok (xe_ceq_ok q1 q2 z1 z2) (fun kt kf => lv_if_eq hx hb hdg ht kt kf) (fun w hw2 => kk w hw2 _ hm)
        | ne => exact xe_two_ok (xe_not_ok (xe_ceq_ok q1 q2 z1 z2)) (fun kt kf => lv_if_ne hx hb hdg ht kt (fun e => kf (fun n => n e))) (fun w hw2 => kk w hw2 _ hm)
        | lt => exact xe_two_ok (xe_clt_ok q1 q2 z1 z2) (fun kt kf => lv_if_lt hx hb hdg ht kt kf) (fun w hw2 => kk w hw2 _ hm)
        | ge => exact xe_two_ok (xe_not_ok (xe_clt_ok q1 q2 z1 z2)) (fun kt kf => lv_if_ge hx hb hdg ht (fun e => kt (Int32.not_lt.mpr e)) (fun e => kf (fun n => e (Int32.not_lt.mp n)))) (fun w hw2 => kk w hw2 _ hm)
        | gt => exact xe_two_ok (xe_clt_ok z1 z2 q1 q2) (fun kt kf => lv_if_gt hx hb hdg ht kt kf) (fun w hw2 => kk w hw2 _ hm)
        | le => exact xe_two_ok (xe_not_ok (xe_clt_ok z1 z2 q1 q2)) (fun kt kf => lv_if_le hx hb hdg ht (fun e => kt (Int32.not_lt.mpr e)) (fun e => kf (fun n => e (Int32.not_lt.mp n)))) (fun w hw2 => kk w hw2 _ hm)
      · cases h
    · cases h
  · have hlen : len = 3 := xe_l1 hlen rfl (by decide)
    subst hlen
    split at h
    · next b2 a r =>
      obtain ⟨v, u, m2, rfl, hgb, hg, hm⟩ := xe_cons2 hw
      split at h
      · next t0 =>
        rw [Bool.and_eq_true] at t0
        obtain ⟨x0, rfl, q1, q2⟩ := xe_g0 t0.1 hg
        obtain ⟨y0, rfl, q3, q4⟩ := xe_g0 t0.2 hgb
        obtain ⟨t, ht, h1⟩ := xe_tg_ok h
        cases h1
        dsimp only at kk
        cases ‹Jvm.ClassFile.Cond› with
        | eq => exact xe_two_ok (xe_ceq_ok q1 q2 q3 q4) (fun kt kf => lv_icmp_eq hx hb hdg ht kt kf) (fun w hw2 => kk w hw2 _ hm)
        | ne => exact xe_two_ok (xe_not_ok (xe_ceq_ok q1 q2 q3 q4)) (fun kt kf => lv_icmp_ne hx hb hdg ht kt (fun e => kf (fun n => n e))) (fun w hw2 => kk w hw2 _ hm)
        | lt => exact xe_two_ok (xe_clt_ok q1 q2 q3 q4) (fun kt kf => lv_icmp_lt hx hb hdg ht kt kf) (fun w hw2 => kk w hw2 _ hm)
        | ge => exact xe_two_ok (xe_not_ok (xe_clt_ok q1 q2 q3 q4)) (fun kt kf => lv_icmp_ge hx hb hdg ht (fun e => kt (Int32.not_lt.mpr e)) (fun e => kf (fun n => e (Int32.not_lt.mp n)))) (fun w hw2 => kk w hw2 _ hm)
        | gt => exact xe_two_ok (xe_clt_ok q3 q4 q1 q2) (fun kt kf => lv_icmp_gt hx hb hdg ht kt kf) (fun w hw2 => kk w hw2 _ hm)
        | le => exact xe_two_ok (xe_not_ok (xe_clt_ok q3 q4 q1 q2)) (fun kt kf => lv_icmp_le hx hb hdg ht (fun e => kt (Int32.not_lt.mpr e)) (fun e => kf (fun n => e (Int32.not_lt.mp n)))) (fun w hw2 => kk w hw2 _ hm)
      · cases h
    · cases h
  · have hlen : len = 3 := xe_l1 hlen rfl (by decide)
    subst hlen
    split at h
    · next a r =>
      obtain ⟨v, m2, rfl, hg, hm⟩ := xe_w_cons hw
      split at h
      · next t0 =>
        have e0 := xe_g2 t0 hg
        subst e0
        obtain ⟨t, ht, h1⟩ := xe_tg_ok h
        cases h1
        exact lv_ifnullN hx hb hdg ht (kk t List.mem_cons_self _ hm)
      · split at h
        · next t0 =>
          obtain ⟨qa, -, rfl⟩ := xe_g3 t0 hg
          cases h
          exact lv_ifnull hx hb hdg (kk _ List.mem_cons_self _ hm)
        · cases h
    · cases h
  · have hlen : len = 3 := xe_l1 hlen rfl (by decide)
    subst hlen
    split at h
    · next a r =>
      obtain ⟨v, m2, rfl, hg, hm⟩ := xe_w_cons hw
      split at h
      · next t0 =>
        obtain ⟨qa, -, rfl⟩ := xe_g3 t0 hg
        obtain ⟨t, ht, h1⟩ := xe_tg_ok h
        cases h1
        exact lv_ifnonnull hx hb hdg ht (kk t List.mem_cons_self _ hm)
      · split at h
        · next t0 =>
          have e0 := xe_g2 t0 hg
          subst e0
          cases h
          exact lv_ifnonnullN hx hb hdg (kk _ List.mem_cons_self _ hm)
        · cases h
    · cases h
  · split at h
    · next a r =>
      obtain ⟨v, m2, rfl, hg, hm⟩ := xe_w_cons hw
      split at h
      · next t0 =>
        obtain ⟨x0, rfl, q1, q2⟩ := xe_g0 t0 hg
        have hti := xe_ti x0
        split at h
        · next t1 =>
          rw [Bool.or_eq_true, decide_eq_true_eq, decide_eq_true_eq] at t1
          obtain ⟨t, ht, h1⟩ := xe_tg_ok h
          cases h1
          exact lv_tableOut hx hb hdg (by omega) ht (kk t List.mem_cons_self _ hm)
        · split at h
          · next t1 =>
            rw [Bool.and_eq_true, Bool.and_eq_true, decide_eq_true_eq, decide_eq_true_eq] at t1
            obtain ⟨⟨t1, t2⟩, t3⟩ := t1
            have t1 : a.2.1 = a.2.2 := by simpa using t1
            have e0 : x0.toInt = (a.2.1 : Int) - 2147483648 := by omega
            split at h
            · next f hf =>
              obtain ⟨t, ht, h1⟩ := xe_tg_ok h
              cases h1
              exact lv_tableIn hx hb hdg (by omega) (by omega) (by rw [e0]; exact hf) ht (kk t List.mem_cons_self _ hm)
            · cases h
          · cases h
      · cases h
    · cases h
  · cases h
set_option maxHeartbeats 8000000 in
theorem xe_sto_ok {pc : Nat} {q : xe_I} {lv : List (Nat × xe_v)} {lc : List (Nat × Value)} {st : List xe_v} {w : List (Nat × xe_v) × List xe_v} {stc : List Value} {ls : Array Slot} (X : xe_X p R s m args meth c D E A b sc d μ) (hk : xe_chk μ q pc = true) (hl : lv_has ls (xm μ).2.2.1 lc) (hp : xe_p b as lv lc) (hw : xe_w b as st stc) (h : xe_sto (xm μ).2.2.1 q.1 lv st = some w)
    (kk : ∀ (lc2 : List (Nat × Value)) (ls2 : Array Slot) (st3 : List Value), lv_has ls2 (xm μ).2.2.1 lc2 → xe_p b as w.1 lc2 → xe_w b as w.2 st3 → W p l e R s m args below meth c H locs cells slots Q (F0 m (pc + q.2.1) ls2 st3)) : W p l e R s m args below meth c H locs cells slots Q (F0 m pc ls stc) := by
  obtain ⟨I, len, x, y, z⟩ := q
  unfold xe_chk at hk
  dsimp only at h hk kk
  rw [Bool.and_eq_true, Bool.and_eq_true] at hk
  obtain ⟨⟨hlen, hdg0⟩, hcw⟩ := hk
  have hdg := of_decide_eq_true hdg0
  clear hdg0
  obtain ⟨⟨hx, hb, hml, hown, hret, hnm, hlk⟩, -⟩ := X
  unfold xe_sto xe_of at h
  split at h <;> (try dsimp only at h)
  · have hlen : len = 2 := xe_l1 hlen rfl (by decide)
    subst hlen
    unfold xe_t1 at h
    split at h
    · next a r =>
      obtain ⟨v, m2, rfl, hg, hm⟩ := xe_w_cons hw
      split at h
      · next t =>
        rw [xe_fl_eq] at h
        cases h
        rw [Bool.and_eq_true] at t
        obtain ⟨x0, rfl, -, -⟩ := xe_g0 t.1 hg
        exact lv_istore hx hb hdg hl (Nat.le_of_ble_eq_true t.2) rfl (fun ls2 hl2 => kk _ _ _ hl2 (xe_p_s1 hp hg) hm)
      · cases h
    · cases h
  · have hlen : len = 1 := xe_l1 hlen rfl (by decide)
    subst hlen
    unfold xe_t1 at h
    split at h
    · next a r =>
      obtain ⟨v, m2, rfl, hg, hm⟩ := xe_w_cons hw
      split at h
      · next t =>
        rw [xe_fl_eq] at h
        cases h
        rw [Bool.and_eq_true] at t
        obtain ⟨x0, rfl, -, -⟩ := xe_g0 t.1 hg
        exact lv_istore_n hx hb hdg rfl hl (Nat.le_of_ble_eq_true t.2) rfl (fun ls2 hl2 => kk _ _ _ hl2 (xe_p_s1 hp hg) hm)
      · cases h
    · cases h
  · have hlen : len = 2 := xe_l1 hlen rfl (by decide)
    subst hlen
    unfold xe_t1 at h
    split at h
    · next a r =>
      obtain ⟨v, m2, rfl, hg, hm⟩ := xe_w_cons hw
      split at h
      · next t =>
        rw [xe_fl_eq] at h
        cases h
        rw [Bool.and_eq_true, Bool.or_eq_true] at t
        rcases t.1 with t1 | t1
        · have e0 := xe_g2 t1 hg
          subst e0
          exact lv_astoreN hx hb hdg hl (Nat.le_of_ble_eq_true t.2) rfl (fun ls2 hl2 => kk _ _ _ hl2 (xe_p_s1 hp hg) hm)
        · obtain ⟨qa, -, e0⟩ := xe_g3 t1 hg
          subst e0
          exact lv_astore hx hb hdg hl (Nat.le_of_ble_eq_true t.2) rfl (fun ls2 hl2 => kk _ _ _ hl2 (xe_p_s1 hp hg) hm)
      · cases h
    · cases h
  · have hlen : len = 1 := xe_l1 hlen rfl (by decide)
    subst hlen
    unfold xe_t1 at h
    split at h
    · next a r =>
      obtain ⟨v, m2, rfl, hg, hm⟩ := xe_w_cons hw
      split at h
      · next t =>
        rw [xe_fl_eq] at h
        cases h
        rw [Bool.and_eq_true, Bool.or_eq_true] at t
        rcases t.1 with t1 | t1
        · have e0 := xe_g2 t1 hg
          subst e0
          exact lv_astore_nN hx hb hdg rfl hl (Nat.le_of_ble_eq_true t.2) rfl (fun ls2 hl2 => kk _ _ _ hl2 (xe_p_s1 hp hg) hm)
        · obtain ⟨qa, -, e0⟩ := xe_g3 t1 hg
          subst e0
          exact lv_astore_n hx hb hdg rfl hl (Nat.le_of_ble_eq_true t.2) rfl (fun ls2 hl2 => kk _ _ _ hl2 (xe_p_s1 hp hg) hm)
      · cases h
    · cases h
  · have hlen : len = 2 := xe_l1 hlen rfl (by decide)
    subst hlen
    unfold xe_t2 at h
    split at h
    · next a r =>
      obtain ⟨v, m2, rfl, hg, hm⟩ := xe_w_cons hw
      split at h
      · next t =>
        rw [xe_fl_eq] at h
        cases h
        rw [Bool.and_eq_true] at t
        obtain ⟨x0, rfl, -, -⟩ := xe_g1 t.1 hg
        exact lv_lstore hx hb hdg hl (Nat.le_of_ble_eq_true t.2) rfl (fun ls2 hl2 => kk _ _ _ hl2 (xe_p_s2 hp hg) hm)
      · cases h
    · cases h
  · have hlen : len = 1 := xe_l1 hlen rfl (by decide)
    subst hlen
    unfold xe_t2 at h
    split at h
    · next a r =>
      obtain ⟨v, m2, rfl, hg, hm⟩ := xe_w_cons hw
      split at h
      · next t =>
        rw [xe_fl_eq] at h
        cases h
        rw [Bool.and_eq_true] at t
        obtain ⟨x0, rfl, -, -⟩ := xe_g1 t.1 hg
        exact lv_lstore_n hx hb hdg rfl hl (Nat.le_of_ble_eq_true t.2) rfl (fun ls2 hl2 => kk _ _ _ hl2 (xe_p_s2 hp hg) hm)
      · cases h
    · cases h
  · have hlen : len = 3 := xe_l1 hlen rfl (by decide)
    subst hlen
    split at h
    · next a ha =>
      obtain ⟨k, v, hk1, hg⟩ := xe_p_lg hp ha
      split at h
      · next t =>
        rw [Bool.and_eq_true] at t
        obtain ⟨x0, rfl, q1, q2⟩ := xe_g0 t.1 hg
        split at h
        · next t2 =>
          rw [xe_f_eq, xe_fl_eq, xe_kn q1 q2 t2] at h
          cases h
          exact lv_iinc hx hb hdg hl hk1 rfl (Nat.le_of_ble_eq_true t.2) rfl (fun ls2 hl2 => kk _ _ _ hl2 (xe_p_s1 hp (xe_gi _)) hw)
        · rw [xe_fl_eq] at h
          cases h
          exact lv_iinc hx hb hdg hl hk1 rfl (Nat.le_of_ble_eq_true t.2) rfl (fun ls2 hl2 => kk _ _ _ hl2 (xe_p_s1 hp (xe_gt _)) hw)
      · cases h
    · cases h
  · cases h
theorem xe_fk_ok {t : FieldType} {a : xe_v} {v : Value} (h : xe_fk t a = true) (hg : xe_g b as a v) : narrow t v = v ∧ fits t v = true := by
  unfold xe_fk at h
  split at h
  · obtain ⟨x0, rfl, -, -⟩ := xe_g0 h hg
    exact ⟨rfl, rfl⟩
  · obtain ⟨x0, rfl, -, -⟩ := xe_g1 h hg
    exact ⟨rfl, rfl⟩
  · rw [Bool.and_eq_true, Bool.and_eq_true] at h
    obtain ⟨x0, rfl, q1, q2⟩ := xe_g0 h.1.1 hg
    have h1 := Nat.le_of_ble_eq_true h.1.2
    have h2 := Nat.le_of_ble_eq_true h.2
    have e : x0 = nI 0 ∨ x0 = nI 1 := by
      rcases (by omega : xe_i x0 = 2147483648 + 0 ∨ xe_i x0 = 2147483648 + 1) with z | z
      · exact Or.inl (xe_nI z)
      · exact Or.inr (xe_nI z)
    rcases e with rfl | rfl
    · exact ⟨by decide +kernel, by decide +kernel⟩
    · exact ⟨by decide +kernel, by decide +kernel⟩
  · rw [Bool.or_eq_true] at h
    rcases h with h | h
    · rw [xe_g2 h hg]; exact ⟨rfl, rfl⟩
    · obtain ⟨qa, -, rfl⟩ := xe_g3 h hg; exact ⟨rfl, rfl⟩
  · rw [Bool.or_eq_true] at h
    rcases h with h | h
    · rw [xe_g2 h hg]; exact ⟨rfl, rfl⟩
    · obtain ⟨qa, -, rfl⟩ := xe_g3 h hg; exact ⟨rfl, rfl⟩
  · cases h
theorem xe_nar {x : Int32} (h1 : 2147483520 ≤ xe_i x) (h2 : xe_i x ≤ 2147483775) : vp_nar .byte x = x := by
  show x.toInt8.toInt32 = x
  have h := xe_ti x
  refine Int32.toInt_inj.mp ?_
  rw [Int8.toInt_toInt32, Int32.toInt_toInt8, Int.bmod_def]
  split <;> omega
set_option maxHeartbeats 8000000 in
theorem xe_put_ok {pc i x y z : Nat} {st : List xe_v} {w : List xe_v × xe_h} {stc : List Value} {ls : Array Slot} (X : xe_X p R s m args meth c D E A b sc d μ) (hdg : decode (xm μ).2.1 pc = .ok (.putfield i, 3)) (hcw : xe_cw μ (.putfield i, 3, x, y, z) = true) (hR : xe_R E b as σ ws) (hP : va_P D xk_cl ws H) (hD : va_D A ws) (hS : va_S A s.heap H locs) (hin : (xm μ).2.2.2.2.2.2.2 = 2 → meth.name = "<init>") (hw : xe_w b as st stc) (h : xe_put x y st σ = some w)
    (kk : ∀ (H2 : Heap) (locs2 : List Loc) (ws2 : va_W) (st3 : List Value), xe_R E b as w.2 ws2 → va_P D xk_cl ws2 H2 → va_D A ws2 → va_S A s.heap H2 locs2 → xe_w b as w.1 st3 → W p l e R s m args below meth c H2 locs2 cells slots Q (F0 m (pc + 3) ls st3)) : W p l e R s m args below meth c H locs cells slots Q (F0 m pc ls stc) := by
  obtain ⟨⟨hx, hb, hml, hown, hret, hnm, hlk⟩, ⟨hts, hN, hAO, hK⟩, -, -⟩ := X
  unfold xe_put at h
  split at h
  · next av a r =>
    obtain ⟨v, u, m2, rfl, hgv, hg, hm⟩ := xe_cons2 hw
    split at h
    · next t =>
      rw [Bool.and_eq_true] at t
      obtain ⟨qa, hq, rfl⟩ := xe_g3 t.1 hg
      obtain ⟨f1, f2⟩ := xe_fk_ok t.2 hgv
      split at h
      · next cl hc =>
        obtain ⟨e1, he1, hr1⟩ := xe_R_at hR hq hc
        split at h
        · next t2 =>
          rw [xe_fl_eq, xh_k_eq] at h
          cases h
          rw [Bool.and_eq_true, Bool.and_eq_true] at t2
          obtain ⟨fs, rfl, hfs⟩ := xe_r0 t2.1.1 hr1
          have hx2 : cl.2.1 = x := by simpa using t2.1.2
          have hy := Nat.le_of_ble_eq_true t2.2
          unfold xe_cw at hcw
          dsimp only at hcw
          split at hcw
          · next r0 hr0 =>
            rw [Bool.and_eq_true, Bool.and_eq_true] at hcw
            obtain ⟨C, T, N⟩ := r0
            obtain ⟨u1, u2, u3, u4, u5⟩ := xu_w hr0
            have hlink := hts _ (xt_mem (of_decide_eq_true hcw.1.2))
            have hyN := Nat.le_of_ble_eq_true hcw.1.1
            rw [hx2] at he1
            have hlen : y < fs.length := by rw [xe_w_len hfs]; exact hy
            have hnew : xe_r E b as (0, x, cl.2.2.1.set y av, cl.2.2.2.1, cl.2.2.2.2) (.inr (x, fs.set y v)) := ⟨fs.set y v, rfl, xe_w_set hfs y hgv⟩
            cases hfin : (T y).2.2.2 with
            | false => exact va_put hx hb hts u1 (xk_ty x) u2 u5 hown hK hP hD hS a.2.1 he1 hr0 y hyN hlink (fun _ h9 => h9) hfin (u2 y hyN) f1 f2 hlen hdg (fun H2 locs2 hP2 hD2 hS2 => kk _ _ _ _ (xe_R_set hR he1 hnew) hP2 hD2 hS2 hm)
            | true =>
              have h9 := hcw.2
              dsimp only at h9
              rw [hfin, if_pos rfl, Bool.and_eq_true] at h9
              exact va_putF hx hb hts u1 (xk_ty x) u2 u5 hown hK hP hD hS a.2.1 he1 hr0 y hyN hlink (fun _ h9 => h9) hfin (hin (by simpa using h9.1)) (of_decide_eq_true h9.2) (u2 y hyN) f1 f2 hlen hdg (fun H2 locs2 hP2 hD2 hS2 => kk _ _ _ _ (xe_R_set hR he1 hnew) hP2 hD2 hS2 hm)
          · cases hcw
        · cases h
      · cases h
    · cases h
  · cases h
set_option maxHeartbeats 8000000 in
theorem xe_ast_ok {pc k : Nat} {I : Jvm.ClassFile.Instr} {ok : xe_v → Bool} {st : List xe_v} {w : List xe_v × xe_h} {stc : List Value} {ls : Array Slot} (X : xe_X p R s m args meth c D E A b sc d μ) (hdg : decode (xm μ).2.1 pc = .ok (I, 1))
    (hI : (k = 1 ∧ I = .iastore ∧ ∀ v, ok v = true → (v.1 == 0) = true) ∨ (k = 2 ∧ I = .bastore ∧ ∀ v, ok v = true → (v.1 == 0) = true ∧ 2147483520 ≤ v.2.1 ∧ v.2.2 ≤ 2147483775) ∨ (k = 3 ∧ I = .lastore ∧ ∀ v, ok v = true → (v.1 == 1) = true) ∨ (k = 4 ∧ I = .aastore ∧ ∀ v, ok v = true → xe_slide σ v = true))
    (hR : xe_R E b as σ ws) (hP : va_P D xk_cl ws H) (hD : va_D A ws) (hS : va_S A s.heap H locs) (hw : xe_w b as st stc) (h : xe_ast k ok st σ = some w)
    (kk : ∀ (H2 : Heap) (locs2 : List Loc) (ws2 : va_W) (st3 : List Value), xe_R E b as w.2 ws2 → va_P D xk_cl ws2 H2 → va_D A ws2 → va_S A s.heap H2 locs2 → xe_w b as w.1 st3 → W p l e R s m args below meth c H2 locs2 cells slots Q (F0 m (pc + 1) ls st3)) : W p l e R s m args below meth c H locs cells slots Q (F0 m pc ls stc) := by
  obtain ⟨⟨hx, hb, hml, hown, hret, hnm, hlk⟩, ⟨hts, hN, hAO, hK⟩, -, -⟩ := X
  unfold xe_ast at h
  split at h
  · next av i a r =>
    obtain ⟨v, m2, rfl, hgv, hm1⟩ := xe_w_cons hw
    obtain ⟨vi, u, m3, rfl, hgi, hg, hm⟩ := xe_cons2 hm1
    split at h
    · next t =>
      rw [Bool.and_eq_true] at t
      obtain ⟨qa, hq, rfl⟩ := xe_g3 t.1 hg
      split at h
      · next cl hc =>
        obtain ⟨e1, he1, hr1⟩ := xe_R_at hR hq hc
        split at h
        · next t2 =>
          rw [xe_f_eq, xe_fl_eq, xh_k_eq] at h
          cases h
          rw [Bool.and_eq_true] at t2
          obtain ⟨t2, t3⟩ := t2
          obtain ⟨x, rfl, hin, hj, -⟩ := xe_ix_ok t3 hgi
          rcases hI with ⟨rfl, rfl, hok⟩ | ⟨rfl, rfl, hok⟩ | ⟨rfl, rfl, hok⟩ | ⟨rfl, rfl, hok⟩
          · obtain ⟨f, rfl, hf⟩ := xe_r1 t2 hr1
            obtain ⟨x0, rfl, q1, q2⟩ := xe_g0 (hok _ t.2) hgv
            refine va_iast hx hb hK hP hD hS a.2.1 0 he1 rfl hin hdg (fun H2 locs2 hP2 hD2 hS2 => kk _ _ _ _ (xe_R_set hR he1 ⟨_, rfl, fun k => ?_⟩) hP2 hD2 hS2 hm)
            dsimp only
            rw [xe_ag_aw, hj]
            unfold upd
            split
            · exact hgv
            · exact hf k
          · obtain ⟨f, rfl, hf⟩ := xe_r2 t2 hr1
            obtain ⟨o1, o2, o3⟩ := hok _ t.2
            obtain ⟨x0, rfl, q1, q2⟩ := xe_g0 o1 hgv
            refine va_bast hx hb hK hP hD hS a.2.1 1 he1 rfl hin hdg (fun H2 locs2 hP2 hD2 hS2 => kk _ _ _ _ (xe_R_set hR he1 ⟨_, rfl, fun k => ?_⟩) hP2 hD2 hS2 hm)
            dsimp only
            rw [xe_ag_aw, hj, xe_nar (by omega) (by omega)]
            unfold upd
            split
            · exact hgv
            · exact hf k
          · obtain ⟨f, rfl, hf⟩ := xe_r3 t2 hr1
            obtain ⟨x0, rfl, q1, q2⟩ := xe_g1 (hok _ t.2) hgv
            refine va_last hx hb hK hP hD hS a.2.1 2 he1 rfl hin hdg (fun H2 locs2 hP2 hD2 hS2 => kk _ _ _ _ (xe_R_set hR he1 ⟨_, rfl, fun k => ?_⟩) hP2 hD2 hS2 hm)
            dsimp only
            rw [xe_ag_aw, hj]
            unfold vp_updL
            split
            · exact hgv
            · exact hf k
          · obtain ⟨f, rfl, hf⟩ := xe_r4 t2 hr1
            have hsl := hok _ t.2
            unfold xe_slide at hsl
            rw [Bool.and_eq_true] at hsl
            obtain ⟨qv, hqv, rfl⟩ := xe_g3 hsl.1 hgv
            have hsl2 := hsl.2
            split at hsl2
            · next cv hcv =>
              rw [Bool.and_eq_true] at hsl2
              obtain ⟨ev, hev, hrv⟩ := xe_R_at hR hqv hcv
              obtain ⟨fsv, rfl, -⟩ := xe_r0 hsl2.1 hrv
              have e7 : cv.2.1 = 7 := by simpa using hsl2.2
              rw [e7] at hev
              refine va_astq hx hb hK hP hD hS a.2.1 3 av.2.1 7 (r := ("SlideNight$Slide", xk_T7, 10)) he1 rfl hev rfl hin hdg (fun H2 locs2 hP2 hD2 hS2 => kk _ _ _ _ (xe_R_set hR he1 ⟨_, rfl, fun k => ?_⟩) hP2 hD2 hS2 hm)
              dsimp only
              rw [xe_ag_aw, hj]
              unfold va_up
              split
              · exact hgv
              · exact hf k
            · cases hsl2
        · cases h
      · cases h
    · cases h
  · cases h
theorem xe_cp_ok {o2 o : List (Nat × xe_v)} {d2 dd : xe_v} {sp dp n : Nat} {f0 f : Nat → Int32} (h0 : ∀ k, xe_g b as (xe_ag o2 d2 k) (.int (f0 k))) (h : ∀ k, xe_g b as (xe_ag o dd k) (.int (f k))) (k : Nat) : xe_g b as (xe_ag (xe_ac o2 d2 sp dp n o dd) dd k) (.int (va_cpy f0 f sp dp n k)) := by
  rw [xe_ag_ac]
  unfold va_cpy
  by_cases hz : dp ≤ k ∧ k < dp + n
  · rw [if_pos hz, if_pos hz]
    exact h0 _
  · rw [if_neg hz, if_neg hz]
    exact h k
set_option maxHeartbeats 8000000 in
set_option maxRecDepth 20000 in
theorem xe_acp_ok {pc i : Nat} {st : List xe_v} {w : List xe_v × xe_h} {stc : List Value} {ls : Array Slot} (X : xe_X p R s m args meth c D E A b sc d μ) (hdg : decode (xm μ).2.1 pc = .ok (.invokestatic i, 3)) (hlink : (Cond.methodLink (xm μ).1.cls i arraycopyName).before args s = true)
    (hR : xe_R E b as σ ws) (hP : va_P D xk_cl ws H) (hD : va_D A ws) (hS : va_S A s.heap H locs) (hls : ls.size = (xm μ).2.2.1) (hw : xe_w b as st stc) (h : xe_acp d st σ = some w)
    (kk : ∀ (H2 : Heap) (locs2 : List Loc) (ws2 : va_W) (st3 : List Value), xe_R E b as w.2 ws2 → va_P D xk_cl ws2 H2 → va_D A ws2 → va_S A s.heap H2 locs2 → xe_w b as w.1 st3 → W p l e R s m args below meth c H2 locs2 cells slots Q (F0 m (pc + 3) ls st3)) : W p l e R s m args below meth c H locs cells slots Q (F0 m pc ls stc) := by
  obtain ⟨⟨hx, hb, hml, hown, hret, hnm, hlk⟩, ⟨hts, hN, hAO, hK⟩, ⟨hA, hd1, hd2, hd3, hd4⟩, -⟩ := X
  unfold xe_acp at h
  split at h
  · next n dp a sp a0 r =>
    obtain ⟨vn, vdp, m1, rfl, hgn, hgdp, hm1⟩ := xe_cons2 hw
    obtain ⟨va, vsp, m2, rfl, hga, hgsp, hm2⟩ := xe_cons2 hm1
    obtain ⟨va0, m3, rfl, hga0, hm3⟩ := xe_w_cons hm2
    split at h
    · next t =>
      rw [Bool.and_eq_true, Bool.and_eq_true, Bool.and_eq_true] at t
      obtain ⟨⟨⟨t1, t2⟩, t3⟩, t4⟩ := t
      obtain ⟨qa, hq, rfl⟩ := xe_g3 t1 hga
      obtain ⟨qa0, hq0, rfl⟩ := xe_g3 t2 hga0
      have t3 := Nat.le_of_ble_eq_true t3
      have h8 := xe_sum8 hm3 t4
      split at h
      · next cl c0 hc hc0 =>
        obtain ⟨e1, he1, hr1⟩ := xe_R_at hR hq hc
        obtain ⟨e0, he0, hr0⟩ := xe_R_at hR hq0 hc0
        split at h
        · next u =>
          simp only [Bool.and_eq_true] at u
          obtain ⟨⟨⟨⟨⟨⟨⟨⟨⟨⟨⟨⟨u1, u2⟩, u3⟩, u4⟩, u5⟩, u6⟩, u7⟩, u8⟩, u9⟩, v1⟩, v2⟩, v3⟩, v4⟩ := u
          obtain ⟨f, rfl, hf⟩ := xe_r1 u1 hr1
          obtain ⟨f0, rfl, hf0⟩ := xe_r1 u2 hr0
          obtain ⟨xn, rfl, n1, n2⟩ := xe_g0 u3 hgn
          obtain ⟨xd, rfl, d1, d2⟩ := xe_g0 u4 hgdp
          obtain ⟨xs, rfl, s1, s2⟩ := xe_g0 u5 hgsp
          have u6 : n.2.1 = n.2.2 := by simpa using u6
          have u7 : dp.2.1 = dp.2.2 := by simpa using u7
          have u8 : sp.2.1 = sp.2.2 := by simpa using u8
          have g1 := xe_i_lt xn
          have g2 := xe_i_lt xd
          have g3 := xe_i_lt xs
          obtain ⟨nn, hnn⟩ := Nat.exists_eq_add_of_le (Nat.le_of_ble_eq_true u9)
          obtain ⟨dd, hdd⟩ := Nat.exists_eq_add_of_le (Nat.le_of_ble_eq_true v1)
          obtain ⟨ss, hss⟩ := Nat.exists_eq_add_of_le (Nat.le_of_ble_eq_true v2)
          rw [hnn, hss, Nat.add_sub_cancel_left, Nat.add_sub_cancel_left] at v3
          rw [hnn, hdd, Nat.add_sub_cancel_left, Nat.add_sub_cancel_left] at v4
          rw [hnn, hdd, hss, Nat.add_sub_cancel_left, Nat.add_sub_cancel_left, Nat.add_sub_cancel_left, xe_fl_eq, xh_k_eq] at h
          cases h
          have v3 := Nat.le_of_ble_eq_true v3
          have v4 := Nat.le_of_ble_eq_true v4
          have en2 : nn < 2 ^ 31 := by omega
          have ed2 : dd < 2 ^ 31 := by omega
          have es2 : ss < 2 ^ 31 := by omega
          have en : xn = nI nn := xe_nI (by omega)
          have ed : xd = nI dd := xe_nI (by omega)
          have es : xs = nI ss := xe_nI (by omega)
          have cn : xn.toNatClampNeg = nn := by rw [en, nI_clamp en2]
          have cd : xd.toNatClampNeg = dd := by rw [ed, nI_clamp ed2]
          have cs : xs.toNatClampNeg = ss := by rw [es, nI_clamp es2]
          have hnf : nativeFrameWords "java/lang/System" "arraycopy" 5 ≤ 7 := by decide +kernel
          have hnew : ∀ k, xe_g b as (xe_ag (xe_ac c0.2.2.2.2 c0.2.2.2.1 ss dd nn cl.2.2.2.2 cl.2.2.2.1) cl.2.2.2.1 k) (.int (va_cpy f0 f xs.toNatClampNeg xd.toNatClampNeg xn.toNatClampNeg k)) := by
            intro k
            rw [cs, cd, cn]
            exact xe_cp_ok hf0 hf k
          exact va_copyi hx hb (hml.trans hls.symm) hown hlink (hts _ xw_math.2.2.2) (hts _ xw_math.2.2.1) (hts _ xw_math.2.1) hK hP hD hS a0.2.1 a.2.1 0 0 (ty := .int) he0 he1 rfl rfl rfl (by rw [es]; exact nI_pos es2) (by rw [ed]; exact nI_pos ed2) (by rw [en]; exact nI_pos en2) (by rw [cs, cn]; exact v3) (by rw [cd, cn]; exact v4) (fun _ _ => rfl) (by omega) (by omega) hdg (fun H2 locs2 hP2 hD2 hS2 => kk _ _ _ _ (xe_R_set hR he1 ⟨_, rfl, hnew⟩) hP2 hD2 hS2 hm3)
        · cases h
      · cases h
    · cases h
  · cases h
set_option maxHeartbeats 8000000 in
theorem xe_wr_ok {pc : Nat} {q : xe_I} {st : List xe_v} {w : List xe_v × xe_h} {stc : List Value} {ls : Array Slot} (X : xe_X p R s m args meth c D E A b sc d μ) (hk : xe_chk μ q pc = true) (hin : (xm μ).2.2.2.2.2.2.2 = 2 → meth.name = "<init>")
    (hR : xe_R E b as σ ws) (hP : va_P D xk_cl ws H) (hD : va_D A ws) (hS : va_S A s.heap H locs) (hls : ls.size = (xm μ).2.2.1) (hw : xe_w b as st stc) (h : xe_wr d q.1 q.2.2.1 q.2.2.2.1 st σ = some w)
    (kk : ∀ (H2 : Heap) (locs2 : List Loc) (ws2 : va_W) (st3 : List Value), xe_R E b as w.2 ws2 → va_P D xk_cl ws2 H2 → va_D A ws2 → va_S A s.heap H2 locs2 → xe_w b as w.1 st3 → W p l e R s m args below meth c H2 locs2 cells slots Q (F0 m (pc + q.2.1) ls st3)) : W p l e R s m args below meth c H locs cells slots Q (F0 m pc ls stc) := by
  obtain ⟨I, len, x, y, z⟩ := q
  unfold xe_chk at hk
  dsimp only at h hk kk
  rw [Bool.and_eq_true, Bool.and_eq_true] at hk
  obtain ⟨⟨hlen, hdg0⟩, hcw⟩ := hk
  have hdg := of_decide_eq_true hdg0
  clear hdg0
  unfold xe_wr xe_wf at h
  split at h <;> (try dsimp only at h)
  · have hlen : len = 3 := xe_l1 hlen rfl (by decide)
    subst hlen
    exact xe_put_ok X hdg hcw hR hP hD hS hin hw h kk
  · have hlen : len = 1 := xe_l1 hlen rfl (by decide)
    subst hlen
    exact xe_ast_ok X hdg (Or.inl ⟨rfl, rfl, fun v hv => hv⟩) hR hP hD hS hw h kk
  · have hlen : len = 1 := xe_l1 hlen rfl (by decide)
    subst hlen
    refine xe_ast_ok X hdg (Or.inr (Or.inl ⟨rfl, rfl, fun v hv => ?_⟩)) hR hP hD hS hw h kk
    rw [Bool.and_eq_true, Bool.and_eq_true] at hv
    exact ⟨hv.1.1, Nat.le_of_ble_eq_true hv.1.2, Nat.le_of_ble_eq_true hv.2⟩
  · have hlen : len = 1 := xe_l1 hlen rfl (by decide)
    subst hlen
    exact xe_ast_ok X hdg (Or.inr (Or.inr (Or.inl ⟨rfl, rfl, fun v hv => hv⟩))) hR hP hD hS hw h kk
  · have hlen : len = 1 := xe_l1 hlen rfl (by decide)
    subst hlen
    exact xe_ast_ok X hdg (Or.inr (Or.inr (Or.inr ⟨rfl, rfl, fun v hv => hv⟩))) hR hP hD hS hw h kk
  · have hlen : len = 3 := xe_l1 hlen rfl (by decide)
    subst hlen
    split at h
    · next t =>
      have e : x = 5 := by simpa using t
      subst e
      unfold xe_cw at hcw
      dsimp only at hcw
      exact xe_acp_ok X hdg (X.2.1.1 _ (xt_mem (of_decide_eq_true hcw))) hR hP hD hS hls hw h kk
    · cases h
  · cases h
theorem xe_z0 : xe_g b as (0, 2147483648, 2147483648) (.int 0) := ⟨0, rfl, by rw [xe_i0]; exact Nat.le_refl _, by rw [xe_i0]; exact Nat.le_refl _⟩
theorem xe_z1 : xe_g b as (1, 9223372036854775808, 9223372036854775808) (.long 0) := ⟨0, rfl, by decide +kernel, by decide +kernel⟩
theorem xe_dk_ok {t : FieldType} (h : xe_dk t = true) : xe_g b as (xe_dv t) (defaultValue t) := by
  unfold xe_dk at h
  cases t <;> first | (cases h; done) | exact xe_z0 | exact xe_z1 | exact rfl
theorem xe_df_ok {f : Nat → FieldType} : ∀ {ks : List Nat}, (ks.all fun k => xe_dk (f k)) = true → xe_w b as (ks.map fun k => xe_dv (f k)) (ks.map fun k => defaultValue (f k))
  | [], _ => trivial
  | k :: ks, h => by
    rw [List.all_cons, Bool.and_eq_true] at h
    exact ⟨xe_dk_ok h.1, xe_df_ok h.2⟩
set_option maxHeartbeats 8000000 in
theorem xe_al_ok {pc : Nat} {q : xe_I} {st : List xe_v} {w : List xe_v × xe_h × Nat} {stc : List Value} {ls : Array Slot} (X : xe_X p R s m args meth c D E A b sc d μ) (hk : xe_chk μ q pc = true)
    (hR : xe_R E b as σ ws) (hP : va_P D xk_cl ws H) (hD : va_D A ws) (hS : va_S A s.heap H locs) (hw : xe_w b as st stc) (h : xe_al q.1 q.2.2.1 st σ = some w) (hc1 : cells + 1 ≤ R.cells) (hc2 : slots + w.2.2 ≤ R.slots)
    (kk : ∀ (H2 : Heap) (ws2 : va_W) (as2 : List Nat) (st3 : List Value), xe_m as as2 → xe_R E b as2 w.2.1 ws2 → va_P D xk_cl ws2 H2 → va_D A ws2 → va_S A s.heap H2 locs → xe_w b as2 w.1 st3 → W p l e R s m args below meth c H2 locs (cells + 1) (slots + w.2.2) Q (F0 m (pc + q.2.1) ls st3)) : W p l e R s m args below meth c H locs cells slots Q (F0 m pc ls stc) := by
  obtain ⟨I, len, x, y, z⟩ := q
  unfold xe_chk at hk
  dsimp only at h hk kk
  rw [Bool.and_eq_true, Bool.and_eq_true] at hk
  obtain ⟨⟨hlen, hdg0⟩, hcw⟩ := hk
  have hdg := of_decide_eq_true hdg0
  clear hdg0
  obtain ⟨⟨hx, hb, hml, hown, hret, hnm, hlk⟩, ⟨hts, hN, hAO, hK⟩, ⟨hA, hd1, hd2, hd3, hd4⟩, -⟩ := X
  have hnw : ∀ q : Nat, xe_g b (as ++ [q]) (3, σ.1, 0) (.ref q) := fun q => ⟨q, xe_R_new hR q, rfl⟩
  unfold xe_al at h
  split at h
  case isFalse => cases h
  next hsz =>
  have hsz := Nat.le_of_ble_eq_true hsz
  split at h
  · have hlen : len = 3 := xe_l1 hlen rfl (by decide)
    subst hlen
    unfold xe_cw at hcw
    dsimp only at hcw
    split at h
    · next r0 hr0 =>
      split at h
      · next t =>
        rw [xe_fl_eq, xh_q_eq] at h
        cases h
        rw [hr0] at hcw
        dsimp only at hcw
        obtain ⟨C, T, N⟩ := r0
        obtain ⟨u1, u2, u3, u4, u5⟩ := xu_w hr0
        refine va_new (fs := (List.range N).map fun k => defaultValue (xk_ty x k)) hx hb hts u1 (xk_ty x) u2 hown (hts _ (xt_mem (of_decide_eq_true hcw))) (hts _ u3) (hts _ u4) hK hP hD hS hA hr0 (fun j hj => ?_) hc1 hc2 hdg (fun q H2 hP2 hD2 hS2 => kk _ _ _ _ (xe_m_app as [q]) (xe_R_push hR hsz q ⟨_, rfl, xe_df_ok t⟩) hP2 hD2 hS2 ⟨hnw q, xe_w_m (xe_m_app _ _) hw⟩)
        unfold vp_V
        rw [List.getD_eq_getElem?_getD, List.getElem?_map, List.getElem?_range hj]
        rfl
      · cases h
    · cases h
  · have hlen : len = 2 := xe_l1 hlen rfl (by decide)
    subst hlen
    split at h
    · next n r =>
      obtain ⟨v, m2, rfl, hg, hm⟩ := xe_w_cons hw
      split at h
      · next t =>
        simp only [Bool.and_eq_true] at t
        obtain ⟨⟨⟨t1, t2⟩, t3⟩, t4⟩ := t
        obtain ⟨x0, rfl, q1, q2⟩ := xe_g0 t1 hg
        have t2 : n.2.1 = n.2.2 := by simpa using t2
        have t3 := Nat.le_of_ble_eq_true t3
        have t4 := Nat.le_of_ble_eq_true t4
        have g1 := xe_i_lt x0
        have en : x0 = nI (n.2.1 - 2147483648) := xe_nI (by omega)
        have cn : x0.toNatClampNeg = n.2.1 - 2147483648 := by rw [en, nI_clamp (by omega)]
        have pn : ¬ x0 < 0 := by rw [en]; exact nI_pos (by omega)
        split at h
        · rw [xe_f_eq, xh_q_eq] at h
          cases h
          refine va_newa (a0 := (n.2.1 - 2147483648, .inl (fun _ => 0))) hx hb (hts _ xw_arr.1) (atype := .int) (ty := .int) rfl hK hP hD hS hA (fun _ => rfl) pn cn (by show (n.2.1 - 2147483648) * 4 ≤ 536870912; omega) hc1 hc2 hdg (fun q cA H2 hK2 hP2 hD2 hS2 => ?_)
          have e5 : cA = E 0 := Option.some.inj ((hK2.2 4 (cA, .int) rfl).2.symm.trans (hK.2 0 (E 0, .int) rfl).2)
          subst e5
          exact kk _ _ _ _ (xe_m_app as [q]) (xe_R_push hR hsz q ⟨_, rfl, fun k => xe_z0⟩) hP2 hD2 hS2 ⟨hnw q, xe_w_m (xe_m_app _ _) hm⟩
        · rw [xe_f_eq, xh_q_eq] at h
          cases h
          refine va_newa (a0 := (n.2.1 - 2147483648, .inl (fun _ => 0))) hx hb (hts _ xw_arr.2.1) (atype := .byte) (ty := .byte) rfl hK hP hD hS hA (fun _ => rfl) pn cn (by show (n.2.1 - 2147483648) * 1 ≤ 536870912; omega) hc1 hc2 hdg (fun q cA H2 hK2 hP2 hD2 hS2 => ?_)
          have e5 : cA = E 1 := Option.some.inj ((hK2.2 4 (cA, .byte) rfl).2.symm.trans (hK.2 1 (E 1, .byte) rfl).2)
          subst e5
          exact kk _ _ _ _ (xe_m_app as [q]) (xe_R_push hR hsz q ⟨_, rfl, fun k => xe_z0⟩) hP2 hD2 hS2 ⟨hnw q, xe_w_m (xe_m_app _ _) hm⟩
        · rw [xe_f_eq, xh_q_eq] at h
          cases h
          refine va_newa (a0 := (n.2.1 - 2147483648, .inr (.inl (fun _ => 0)))) hx hb (hts _ xw_arr.2.2) (atype := .long) (ty := .long) rfl hK hP hD hS hA (fun _ => rfl) pn cn (by show (n.2.1 - 2147483648) * 8 ≤ 536870912; omega) hc1 hc2 hdg (fun q cA H2 hK2 hP2 hD2 hS2 => ?_)
          have e5 : cA = E 2 := Option.some.inj ((hK2.2 4 (cA, .long) rfl).2.symm.trans (hK.2 2 (E 2, .long) rfl).2)
          subst e5
          exact kk _ _ _ _ (xe_m_app as [q]) (xe_R_push hR hsz q ⟨_, rfl, fun k => xe_z1⟩) hP2 hD2 hS2 ⟨hnw q, xe_w_m (xe_m_app _ _) hm⟩
        · cases h
      · cases h
    · cases h
  · have hlen : len = 3 := xe_l1 hlen rfl (by decide)
    subst hlen
    unfold xe_cw at hcw
    dsimp only at hcw
    split at h
    · next n r =>
      obtain ⟨v, m2, rfl, hg, hm⟩ := xe_w_cons hw
      split at h
      · next t =>
        rw [xe_f_eq, xh_q_eq] at h
        cases h
        simp only [Bool.and_eq_true] at t
        obtain ⟨⟨⟨t1, t2⟩, t3⟩, t4⟩ := t
        obtain ⟨x0, rfl, q1, q2⟩ := xe_g0 t1 hg
        have t2 : n.2.1 = n.2.2 := by simpa using t2
        have t3 := Nat.le_of_ble_eq_true t3
        have t4 := Nat.le_of_ble_eq_true t4
        have g1 := xe_i_lt x0
        have en : x0 = nI (n.2.1 - 2147483648) := xe_nI (by omega)
        have cn : x0.toNatClampNeg = n.2.1 - 2147483648 := by rw [en, nI_clamp (by omega)]
        have pn : ¬ x0 < 0 := by rw [en]; exact nI_pos (by omega)
        refine va_newq hx hb hown (hts _ (xt_mem (of_decide_eq_true hcw))) hAO hK hP hD hS hA pn cn (by omega) hc1 hc2 hdg (fun q cA H2 hK2 hP2 hD2 hS2 => ?_)
        obtain ⟨kA, comp, -, -, -, f1⟩ := (hK2.2 4 (cA, .object "SlideNight$Slide") rfl).2
        obtain ⟨kB, comp2, -, -, -, f2⟩ := (hK.2 3 (E 3, .object "SlideNight$Slide") rfl).2
        have e5 : cA = E 3 := Option.some.inj (f1.symm.trans f2)
        subst e5
        exact kk _ _ _ _ (xe_m_app as [q]) (xe_R_push hR hsz q ⟨_, rfl, fun k => show xe_g b (as ++ [q]) (2, 0, 0) (va_rf none) from rfl⟩) hP2 hD2 hS2 ⟨hnw q, xe_w_m (xe_m_app _ _) hm⟩
      · cases h
    · cases h
  · cases h
end XSTEP
