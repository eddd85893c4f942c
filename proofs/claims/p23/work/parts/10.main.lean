/-! a whole run of the reckoner is right -/
/-- what is asked of the end: with an answer among O -/
def xe_RT (p : Program) (l : Launch) (e : Env) (R : Room) (s : State) (m : MethodId) (args : Array Value) (below : List Frame) (meth : Method) (c : Code) (Q : State → Prop) (D : va_G) (E : Nat → ClassId) (A : Nat → Prop) (b μ c0 s0 : Nat) (as0 : List Nat) (O : List xe_o) : Prop :=
  ∀ (pc : Nat) (q : xe_I) (st : List xe_v) (σ : xe_h) (kc : Nat × Nat) (r : Option xe_v) (H : Heap) (locs : List Loc) (ls : Array Slot) (as : List Nat) (ws : va_W) (stc : List Value), xe_chk μ q pc = true → xe_ret (xm μ).2.2.2.1 q.1 st = some r → kc.1 ≤ (xm μ).2.2.2.2.1.1 → kc.2 ≤ (xm μ).2.2.2.2.1.2 → xe_R E b as σ ws → va_P D xk_cl ws H → va_D A ws → va_S A s.heap H locs → xe_m as0 as → xe_w b as st stc → (r, σ) ∈ O → W p l e R s m args below meth c H locs (c0 + kc.1) (s0 + kc.2) Q (F0 m pc ls stc)
def xe_Gd (l : Launch) (d : Nat) (sc : List xe_v) (μ pc : Nat) (lv : List (Nat × xe_v)) (st : List xe_v) (σ : xe_h) (kc : Nat × Nat) (outs : List xe_o) : Prop :=
  ∀ (p : Program) (e : Env) (R : Room) (s : State) (m : MethodId) (args : Array Value) (below : List Frame) (meth : Method) (c : Code) (Q : State → Prop) (D : va_G) (E : Nat → ClassId) (A : Nat → Prop) (b c0 s0 : Nat) (as0 : List Nat) (O : List xe_o),
    xe_X p R s m args meth c D E A b sc d μ → xe_RT p l e R s m args below meth c Q D E A b μ c0 s0 as0 O → c0 + (xm μ).2.2.2.2.1.1 ≤ R.cells ∧ s0 + (xm μ).2.2.2.2.1.2 ≤ R.slots → kc.1 ≤ (xm μ).2.2.2.2.1.1 ∧ kc.2 ≤ (xm μ).2.2.2.2.1.2 → (∀ o ∈ outs, o ∈ O) →
    ∀ (H : Heap) (locs : List Loc) (ls : Array Slot) (as : List Nat) (ws : va_W) (lc : List (Nat × Value)) (stc : List Value), xe_R E b as σ ws → va_P D xk_cl ws H → va_D A ws → va_S A s.heap H locs → lv_has ls (xm μ).2.2.1 lc → xe_p b as lv lc → xe_w b as st stc → xe_m as0 as →
    W p l e R s m args below meth c H locs (c0 + kc.1) (s0 + kc.2) Q (F0 m pc ls stc)
set_option maxHeartbeats 8000000 in
theorem xe_Met {l : Launch} {d y : Nat} {vs : List xe_v} {σ : xe_h} {outs : List xe_o} (hy : y < 276) (hs : xe_sum vs ≤ (xm y).2.2.1) (hG : xe_Gd l d [] y 0 (xe_ar 0 vs) [] σ (0, 0) outs) : xe_M l d y vs σ outs := by
  intro D E b as ws sz vc hR hw
  obtain ⟨m1, m2, m3, m4, m5, m6, m7, m8, m9, m10, m11⟩ := xm_ok hy
  refine Met.ofW (cc := (xm y).2.1) (maxL := (xm y).2.2.1) (ret := (xm y).2.2.2.1) m6 rfl ?_
  intro p e s m args below meth c s₁ B hml hv
  obtain ⟨rfl, hsz, hP, hK, hD0, hN, hAO⟩ := hv
  have hx := B.exec
  have hb := B.bytes
  have hr := B.returns
  have hts := atoms_spec (ws := xe_ws y) B.pre
  have hown : s.vm.findClass (xm y).1.cls = some m.cls := findClass_of_methodNamed B.named
  have hlocks := B.notSynchronized
  have hnm : meth.name = (xm y).1.name := (name_of_methodNamed B.named B.method).1
  subst hsz
  have hD := hD0.self (sz := s.heap.size)
  have hl := lv_entry vc (n := (xm y).2.2.1) (by rw [xe_w_sl hw]; exact hs)
  rw [lg_entry_eq]
  generalize (lg_sl vc ++ List.replicate ((xm y).2.2.1 - (lg_sl vc).length) Slot.unset).toArray = ls at hl ⊢
  have X : xe_X p (headSpec (xe_ws y) (xe_rm d y)).room s m vc.toArray meth c D E (va_A ws s.heap.size) b [] d y :=
    ⟨⟨hx, hb, hml, hown, hr, fun _ => hnm, hlocks⟩, ⟨fun w hw => hts w (List.mem_cons_of_mem _ hw), hN, hAO, hK⟩, ⟨fun q h => Or.inr h, Nat.le_refl _, Nat.le_refl _, Nat.le_refl _, Nat.le_refl _⟩, Or.inl rfl⟩
  refine hG p e _ s m vc.toArray below meth c _ D E (va_A ws s.heap.size) b 0 0 as outs X ?_ ⟨by rw [Nat.zero_add]; exact Nat.le_refl _, by rw [Nat.zero_add]; exact Nat.le_refl _⟩ ⟨Nat.zero_le _, Nat.zero_le _⟩ (fun _ h => h) s.heap [] ls as ws _ [] hR hP hD va_S.rf hl (xe_p_ar 0 hw) trivial (xe_m_rf _)
  intro pc q st σ2 kc r H locs ls2 as2 ws2 stc hk hret h1 h2 hR2 hP2 hD2 hS2 hm2 hw2 hO
  obtain ⟨I, len, x, y2, z⟩ := q
  unfold xe_chk at hk
  dsimp only at hk hret
  rw [Bool.and_eq_true, Bool.and_eq_true] at hk
  obtain ⟨⟨hlen, hdg0⟩, hcw⟩ := hk
  have hdg := of_decide_eq_true hdg0
  clear hdg0
  refine W.widen (k := (xm y).2.2.2.2.1.1) (n := (xm y).2.2.2.2.1.2) (by omega) (by omega) ?_
  unfold xe_ret at hret
  split at hret
  · next a =>
    have hlen : len = 1 := xe_l1 hlen rfl (by decide)
    subst hlen
    split at hret
    · next t =>
      cases hret
      obtain ⟨v, m0, rfl, hg, hm0⟩ := xe_w_cons hw2
      have em := xe_w_nil hm0
      subst em
      generalize hty : (xm y).2.2.2.1 = ty at t hr
      unfold xe_ro at t
      split at t
      · obtain ⟨x0, rfl, q1, q2⟩ := xe_g0 t hg
        exact W.iret hx hb hr (fun t ht hW => ⟨⟨_, some (.int x0), as2, ws2, hO, rfl, ⟨hg, trivial⟩, hm2, hR2, by rw [ht]; exact hP2, hD2⟩, hS2.F ht⟩) hS2.2.2 hdg hlocks
      · rw [Bool.and_eq_true, Bool.and_eq_true] at t
        obtain ⟨f1, -⟩ := xe_fk_ok (b := b) (as := as2) (t := .boolean) (a := a) (v := v) (by unfold xe_fk; rw [Bool.and_eq_true, Bool.and_eq_true]; exact t) hg
        obtain ⟨x0, rfl, q1, q2⟩ := xe_g0 t.1.1 hg
        exact W.zret hx hb hr f1 (fun t ht hW => ⟨⟨_, some (.int x0), as2, ws2, hO, rfl, ⟨hg, trivial⟩, hm2, hR2, by rw [ht]; exact hP2, hD2⟩, hS2.F ht⟩) hS2.2.2 hdg hlocks
      · cases t
    · cases hret
  · next a =>
    have hlen : len = 1 := xe_l1 hlen rfl (by decide)
    subst hlen
    split at hret
    · next t =>
      cases hret
      obtain ⟨v, m0, rfl, hg, hm0⟩ := xe_w_cons hw2
      have em := xe_w_nil hm0
      subst em
      rw [Bool.and_eq_true] at t
      obtain ⟨t, t1⟩ := t
      generalize hty : (xm y).2.2.2.1 = ty at t hr
      unfold xe_rl at t
      split at t
      · obtain ⟨x0, rfl, q1, q2⟩ := xe_g1 t1 hg
        exact W.lret hx hb hr (fun t ht hW => ⟨⟨_, some (.long x0), as2, ws2, hO, rfl, ⟨hg, trivial⟩, hm2, hR2, by rw [ht]; exact hP2, hD2⟩, hS2.F ht⟩) hS2.2.2 hdg hlocks
      · cases t
    · cases hret
  · next a =>
    have hlen : len = 1 := xe_l1 hlen rfl (by decide)
    subst hlen
    split at hret
    · next t =>
      cases hret
      obtain ⟨v, m0, rfl, hg, hm0⟩ := xe_w_cons hw2
      have em := xe_w_nil hm0
      subst em
      rw [Bool.and_eq_true] at t
      obtain ⟨t, t1⟩ := t
      have hv : v = .null ∨ ∃ a, v = .ref a := by
        rw [Bool.or_eq_true] at t1
        rcases t1 with t1 | t1
        · exact Or.inl (xe_g2 t1 hg)
        · obtain ⟨qa, -, e1⟩ := xe_g3 t1 hg
          exact Or.inr ⟨qa, e1⟩
      generalize hty : (xm y).2.2.2.1 = ty at t hr
      unfold xe_rr at t
      split at t
      · exact W.aret hx hb hr (Or.inl ⟨_, rfl⟩) hv (fun t ht hW => ⟨⟨_, some v, as2, ws2, hO, rfl, ⟨hg, trivial⟩, hm2, hR2, by rw [ht]; exact hP2, hD2⟩, hS2.F ht⟩) hS2.2.2 hdg hlocks
      · cases t
    · cases hret
  · have hlen : len = 1 := xe_l1 hlen rfl (by decide)
    subst hlen
    split at hret
    · next t =>
      cases hret
      have em := xe_w_nil hw2
      subst em
      have hn : (xm y).2.2.2.1 = none := by simpa using t
      rw [hn] at hr
      exact W.vret hx hb hr (fun t ht hW => ⟨⟨_, none, as2, ws2, hO, rfl, trivial, hm2, hR2, by rw [ht]; exact hP2, hD2⟩, hS2.F ht⟩) hS2.2.2 hdg hlocks
    · cases hret
  · cases hret
set_option maxHeartbeats 8000000 in
theorem xe_step_ok {l : Launch} {d μ pc : Nat} {sc : List xe_v} {K : Nat → List (Nat × xe_v) → List xe_v → xe_h → Nat × Nat → Option (List xe_o)} {call : Nat → List xe_v → xe_h → Option (List xe_o)} {q : xe_I} {lv : List (Nat × xe_v)} {st : List xe_v} {σ : xe_h} {kc : Nat × Nat} {outs : List xe_o} (hk : xe_chk μ q pc = true)
    (hK : ∀ (pc2 : Nat) (lv2 : List (Nat × xe_v)) (st2 : List xe_v) (σ2 : xe_h) (kc2 : Nat × Nat) (outs2 : List xe_o), K pc2 lv2 st2 σ2 kc2 = some outs2 → xe_Gd l d sc μ pc2 lv2 st2 σ2 kc2 outs2)
    (hC : ∀ (y : Nat) (vs : List xe_v) (σ2 : xe_h) (os : List xe_o), call y vs σ2 = some os → y < 276 → xe_sum vs ≤ (xm y).2.2.1 → xe_M l (d - 1) y vs σ2 os)
    (h : xe_step d sc μ K call q pc lv st σ kc = some outs) : xe_Gd l d sc μ pc lv st σ kc outs := by
  intro p e R s m args below meth c Q D E A b c0 s0 as0 O X hRT hoff hkc hO H locs ls as ws lc stc hR hP hD hS hl hp hw hm
  have hcs : c0 + kc.1 ≤ R.cells ∧ s0 + kc.2 ≤ R.slots := ⟨by omega, by omega⟩
  unfold xe_step at h
  generalize xe_kd q.1 q.2.2.1 = kd at h
  match kd, h with
  | 0, h =>
    have h : xe_h0 d sc μ K call q pc lv st σ kc = some outs := h
    unfold xe_h0 at h
    split at h
    · next st2 hst =>
      rw [xe_f_eq] at h
      exact xe_push_ok X hk hR hP hS hl hp hw hcs hst (fun st3 hw3 => hK _ _ _ _ _ _ h p e R s m args below meth c Q D E A b c0 s0 as0 O X hRT hoff hkc hO H locs ls as ws lc st3 hR hP hD hS hl hp hw3 hm)
    · cases h
  | 1, h =>
    have h : xe_h1 d sc μ K call q pc lv st σ kc = some outs := h
    unfold xe_h1 at h
    split at h
    · next ts hts =>
      refine xe_br_ok X hk hw hts (fun t ht st3 hw3 => ?_)
      obtain ⟨o2, ho2, hsub⟩ := xe_al1_ok h t ht
      exact hK _ _ _ _ _ _ ho2 p e R s m args below meth c Q D E A b c0 s0 as0 O X hRT hoff hkc (fun o ho => hO o (hsub o ho)) H locs ls as ws lc st3 hR hP hD hS hl hp hw3 hm
    · cases h
  | 2, h =>
    have h : xe_h2 d sc μ K call q pc lv st σ kc = some outs := h
    unfold xe_h2 at h
    split at h
    · next w hw9 =>
      rw [xe_f_eq] at h
      exact xe_sto_ok X hk hl hp hw hw9 (fun lc2 ls2 st3 hl2 hp2 hw3 => hK _ _ _ _ _ _ h p e R s m args below meth c Q D E A b c0 s0 as0 O X hRT hoff hkc hO H locs ls2 as ws lc2 st3 hR hP hD hS hl2 hp2 hw3 hm)
    · cases h
  | 3, h =>
    have h : xe_h3 d sc μ K call q pc lv st σ kc = some outs := h
    unfold xe_h3 at h
    split at h
    · next ar har =>
      split at h
      · next g =>
        simp only [Bool.and_eq_true] at g
        obtain ⟨⟨⟨⟨g1, g2⟩, g3⟩, g4⟩, g5⟩ := g
        have g1 := Nat.le_of_ble_eq_true g1
        have g3 := Nat.le_of_ble_eq_true g3
        have g4 := Nat.le_of_ble_eq_true g4
        have g5 := Nat.le_of_ble_eq_true g5
        split at h
        · next os hos =>
          have hy : q.2.2.2.1 < 276 := by
            obtain ⟨I, len, x, y, z⟩ := q
            dsimp only at har ⊢
            unfold xe_cal at har
            refine xm_lt ?_
            split at har
            · split at har
              · next t =>
                simp only [Bool.and_eq_true] at t
                have t2 : (xm y).2.2.2.2.2.2.2 = 0 := by simpa using t.1.2
                omega
              · cases har
            · split at har
              · next t =>
                simp only [Bool.and_eq_true] at t
                have t2 : (xm y).2.2.2.2.2.2.2 = 1 := by simpa using t.1.2
                omega
              · cases har
            · split at har
              · next t =>
                simp only [Bool.and_eq_true] at t
                have t2 : (xm y).2.2.2.2.2.2.2 = 2 := by simpa using t.1.2
                omega
              · cases har
            · cases har
          refine xe_cal_ok X hk hR hP hD hS hl.1 hw har g1 g2 (hC _ _ _ _ hos hy g3) (by omega) (by omega) (fun o ho v as2 ws2 H1 locs1 rest a1 a2 a3 a4 a5 a6 a7 => ?_)
          obtain ⟨o2, ho2, hsub⟩ := xe_al1_ok h o ho
          rw [xe_f_eq] at ho2
          have hfin := hK _ _ _ _ _ _ ho2 p e R s m args below meth c Q D E A b c0 s0 as0 O X hRT hoff ⟨g4, g5⟩ (fun o ho => hO o (hsub o ho)) H1 locs1 ls as2 ws2 lc (v.toList ++ rest) a3 a4 a5 a6 hl (xe_p_m a2 hp) (xe_w_app a1 (xe_w_m a2 a7)) (xe_m_tr hm a2)
          rw [← Nat.add_assoc, ← Nat.add_assoc] at hfin
          exact hfin
        · cases h
      · cases h
    · cases h
  | 4, h =>
    have h : xe_h4 d sc μ K call q pc lv st σ kc = some outs := h
    unfold xe_h4 at h
    split at h
    · next w hw9 =>
      rw [xe_f_eq] at h
      refine xe_wr_ok X hk (fun h2 => ?_) hR hP hD hS hl.1 hw hw9 (fun H2 locs2 ws2 st3 a1 a2 a3 a4 a5 => hK _ _ _ _ _ _ h p e R s m args below meth c Q D E A b c0 s0 as0 O X hRT hoff hkc hO H2 locs2 ls as ws2 lc st3 a1 a2 a3 a4 hl hp a5 hm)
      rw [X.1.2.2.2.2.2.1 h2]
      exact ((xm_ok (xm_lt (by omega))).2.2.2.2.1 h2).1
    · cases h
  | 5, h =>
    have h : xe_h5 d sc μ K call q pc lv st σ kc = some outs := h
    unfold xe_h5 at h
    split at h
    · next r hr9 =>
      split at h
      · next g =>
        cases h
        rw [Bool.and_eq_true] at g
        exact hRT pc q st σ kc r H locs ls as ws stc hk hr9 (Nat.le_of_ble_eq_true g.1) (Nat.le_of_ble_eq_true g.2) hR hP hD hS hm hw (hO _ List.mem_cons_self)
      · cases h
    · cases h
  | k + 6, h =>
    have h : xe_h6 d sc μ K call q pc lv st σ kc = some outs := h
    unfold xe_h6 at h
    split at h
    · next w hw9 =>
      split at h
      · next g =>
        rw [xe_f_eq] at h
        rw [Bool.and_eq_true] at g
        have g1 := Nat.le_of_ble_eq_true g.1
        have g2 := Nat.le_of_ble_eq_true g.2
        refine xe_al_ok X hk hR hP hD hS hw hw9 (by omega) (by omega) (fun H2 ws2 as2 st3 a0 a1 a2 a3 a4 a5 => ?_)
        have hfin := hK _ _ _ _ _ _ h p e R s m args below meth c Q D E A b c0 s0 as0 O X hRT hoff ⟨g1, g2⟩ hO H2 locs ls as2 ws2 lc st3 a1 a2 a3 a4 hl (xe_p_m a0 hp) a5 (xe_m_tr hm a0)
        rw [← Nat.add_assoc, ← Nat.add_assoc] at hfin
        exact hfin
      · cases h
    · cases h
theorem xe_run_ok (l : Launch) : ∀ (n : Nat) {d μ pc : Nat} {sc : List xe_v} {lv : List (Nat × xe_v)} {st : List xe_v} {σ : xe_h} {kc : Nat × Nat} {outs : List xe_o}, xe_run n d sc μ (xc μ) pc lv st σ kc = some outs → xe_Gd l d sc μ pc lv st σ kc outs
  | 0, _, _, _, _, _, _, _, _, _, h => by cases h
  | n + 1, d, μ, pc, sc, lv, st, σ, kc, outs, h => by
    unfold xe_run at h
    split at h
    · next q hq =>
      exact xe_step_ok (xe_ck hq) (fun pc2 lv2 st2 σ2 kc2 outs2 h2 => xe_run_ok l n h2) (fun y vs σ2 os h2 hy hs => xe_Met hy hs (xe_run_ok l n h2)) h
    · cases h
/-- a method's contract out of a run -/
theorem xe_met (l : Launch) {n d y : Nat} {vs : List xe_v} {σ : xe_h} {outs : List xe_o} (hy : y < 276) (hs : xe_sum vs ≤ (xm y).2.2.1) (h : xe_run n d [] y (xc y) 0 (xe_ar 0 vs) [] σ (0, 0) = some outs) : xe_M l d y vs σ outs := xe_Met hy hs (xe_run_ok l n h)
