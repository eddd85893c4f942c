/-! calls, and whole runs -/
def xe_ws (y : Nat) : List Cond := Cond.code (xm y).1 (xm y).2.1 (xm y).2.2.1 (xm y).2.2.2.1 :: xe_T
def xe_rm (d y : Nat) : Room := { frames := d, cells := (xm y).2.2.2.2.1.1, slots := (xm y).2.2.2.2.1.2, locals := 64 * d }
def xe_U (D : va_G) (E : Nat → ClassId) (ws : va_W) (sz : Nat) (U : State) : Prop := U.heap.size = sz ∧ va_P D xk_cl ws U.heap ∧ va_K D xk_cl (xe_tys E) U ∧ va_D (fun _ => True) ws ∧ (∀ w ∈ xe_N, va_Nw w U) ∧ va_AO "SlideNight$Slide" U
def xe_Q (D : va_G) (E : Nat → ClassId) (b : Nat) (as : List Nat) (ws : va_W) (sz : Nat) (outs : List xe_o) : Array Value → State → Outcome → State → Prop := fun _ st oc t =>
  (∃ (o : xe_o) (v : Option Value) (as2 : List Nat) (ws2 : va_W), o ∈ outs ∧ oc = .returned v ∧ xe_w b as2 o.1.toList v.toList ∧ xe_m as as2 ∧ xe_R E b as2 o.2 ws2 ∧ va_P D xk_cl ws2 t.heap ∧ va_D (va_A ws sz) ws2) ∧ va_F (va_A ws sz) st t
def xe_M (l : Launch) (d y : Nat) (vs : List xe_v) (σ : xe_h) (outs : List xe_o) : Prop := ∀ (D : va_G) (E : Nat → ClassId) (b : Nat) (as : List Nat) (ws : va_W) (sz : Nat) (vc : List Value), xe_R E b as σ ws → xe_w b as vs vc →
  Met l (xm y).1 (xe_ws y) (xe_rm d y) (va_Pc vc (xe_U D E ws sz)) (xe_Q D E b as ws sz outs) (xm y).2.2.2.2.1.1 (xm y).2.2.2.2.1.2 (va_A ws sz)
theorem xe_GT {ws : List Cond} (h : ∀ w ∈ ws, w ∈ xe_T) : GoodIn xe_T ws := fun w hw => ⟨h w hw, good_of_word (xe_T_good w (h w hw))⟩
theorem xm_lt {y : Nat} (h : (xm y).2.2.2.2.2.2.2 ≤ 2) : y < 276 := by
  rcases Nat.lt_or_ge y 276 with z | z
  · exact z
  · exfalso
    rcases Nat.eq_or_lt_of_le z with e | e
    · subst e
      exact absurd h (by decide +kernel)
    · have hl : xm_A.length = 277 := by decide +kernel
      have : xm y = xm_0 := by
        unfold xm
        rw [List.getD_eq_getElem?_getD, List.getElem?_eq_none (by omega)]
        rfl
      rw [this] at h
      exact absurd h (by decide +kernel)
/-- what the tables say of a method -/
theorem xm_ok {y : Nat} (hy : y < 276) : Cond.initialized (xm y).1.cls ∈ xe_T ∧ ((xm y).2.2.2.2.2.2.2 = 0 → Cond.static (xm y).1 ∈ xe_T) ∧ (¬ (xm y).2.2.2.2.2.2.2 = 0 → Cond.instanceMethod (xm y).1 ∈ xe_T) ∧ ((xm y).2.2.2.2.2.2.2 = 1 → Cond.selects (xm y).1.cls (xm y).1 (xm y).1 ∈ xe_T) ∧ ((xm y).2.2.2.2.2.2.2 = 2 → (xm y).1.name = "<init>" ∧ (xm y).2.2.2.1 = none) ∧ plainName (xm y).1.cls = true ∧ (xm y).1.cls ≠ "java/lang/invoke/MethodHandle" ∧ (xm y).1.cls ≠ "java/lang/invoke/VarHandle" ∧ (parseMethodDescriptor (xm y).1.desc).map (fun d => d.parameters.length) = some (xm y).2.2.2.2.2.1 ∧ (xm y).2.2.1 ≤ 45 ∧ ∃ c : vw_C, xk_cl[(xm y).2.2.2.2.2.2.1]? = some c ∧ c.1 = (xm y).1.cls := by
  have h := xr_all y hy
  unfold xm_ck at h
  simp only [Bool.and_eq_true] at h
  obtain ⟨⟨⟨⟨⟨⟨⟨⟨⟨h1, h2⟩, h3⟩, h4⟩, h5⟩, h6⟩, h7⟩, h8⟩, h9⟩, h10⟩ := h
  refine ⟨xt_mem (of_decide_eq_true h1), fun e => ?_, fun e => ?_, fun e => ?_, fun e => ?_, h5, of_decide_eq_true h6, of_decide_eq_true h7, of_decide_eq_true h8, Nat.le_of_ble_eq_true h9, ?_⟩
  · rw [e] at h2
    exact xt_mem (of_decide_eq_true h2)
  · rw [if_neg (by simpa using e)] at h2
    exact xt_mem (of_decide_eq_true h2)
  · rw [e] at h3
    exact xt_mem (of_decide_eq_true h3)
  · rw [e, if_pos (by decide), Bool.and_eq_true] at h4
    exact ⟨of_decide_eq_true h4.1, of_decide_eq_true h4.2⟩
  · split at h10
    · next c hc => exact ⟨c, hc, of_decide_eq_true h10⟩
    · cases h10
theorem xe_ws_in {y : Nat} (hy : y < 276) : ∀ w ∈ xe_ws y, w ∈ xe_T := fun w hw => by
  rcases List.mem_cons.mp hw with rfl | hw
  · exact xs_at hy
  · exact hw
theorem xe_blind {vc : List Value} {D : va_G} {E : Nat → ClassId} {ws : va_W} {sz : Nat} : FrameBlind (va_Pc vc (xe_U D E ws sz)) := fun a U g mk q => by
  obtain ⟨q0, q1, qP, qK, qD, qN, qA⟩ := q
  exact ⟨q0, q1, qP, va_K.moved (u := U) (U := U.calling g mk a) (Vm.Alike.refl U.vm) qK, qD, fun w hw => va_Nw.same (by
    have : ∀ w ∈ xe_N, w.onTables = true := by decide +kernel
    exact this w hw) (rfl : U.vm = (U.calling g mk a).vm) (qN w hw), va_AO.moved (u := U) (U := U.calling g mk a) (Vm.Alike.refl U.vm) qA⟩
section XCALL
variable {p : Program} {l : Launch} {e : Env} {R : Room} {s : State} {m : MethodId} {args : Array Value} {below : List Frame} {meth : Method} {c : Code} {H : Heap} {locs : List Loc} {cells slots : Nat} {Q : State → Prop}
variable {D : va_G} {E : Nat → ClassId} {A : Nat → Prop} {b : Nat} {as : List Nat} {ws : va_W} {σ : xe_h} {sc : List xe_v} {d μ : Nat}
theorem xe_back {pc mc ms : Nat} {ls : Array Slot} {rest st0 : List Value} {a : Array Value} {outs : List xe_o} (hr : va_Run p l e R s m args below meth c H locs cells slots mc ms (F0 m pc ls st0) rest (xe_Q D E b as ws H.size outs a) (va_A ws H.size)) (hS : va_S A s.heap H locs) (hD : va_D A ws) (hA : ∀ q : Nat, s.heap.size ≤ q → A q)
    (kk : ∀ o ∈ outs, ∀ (v : Option Value) (as2 : List Nat) (ws2 : va_W) (H1 : Heap) (locs1 : List Loc), xe_w b as2 o.1.toList v.toList → xe_m as as2 → xe_R E b as2 o.2 ws2 → va_P D xk_cl ws2 H1 → va_D A ws2 → va_S A s.heap H1 locs1 → W p l e R s m args below meth c H1 locs1 (cells + mc) (slots + ms) Q (F0 m (pc + 3) ls (v.toList ++ rest))) : W p l e R s m args below meth c H locs cells slots Q (F0 m pc ls st0) := by
  intro T hT X
  obtain ⟨v, st₀, t, T', L, h0, X', hL, e1, e2, ⟨⟨o, v2, as2, ws2, ho, hv, hvo, hm, hR2, hP2, hD2⟩, hz, hk⟩, st⟩ := hr T hT X
  cases hv
  rw [h0] at hz hk
  have hAA : ∀ q : Nat, va_A ws H.size q → A q := by
    intro q h
    rcases h with ⟨k, e, h⟩ | h
    · exact hD.2 k (q, e) h
    · exact hA q (Nat.le_trans hS.1 h)
  obtain ⟨t2, a1, b1⟩ := kk o ho v as2 ws2 T'.heap (locs ++ L) hvo hm hR2 (by rw [e1]; exact hP2) (hD2.weaken (fun k q _ h => hAA q.1 h))
    ⟨Nat.le_trans hS.1 (by rw [e1]; exact hz), fun q h1 h2 => by rw [e1, hk q (Nat.lt_of_lt_of_le h1 hS.1) (fun z => h2 (hAA q z))]; exact hS.2.1 q h1 h2, fun q hq => by
      rcases List.mem_append.mp hq with h | h
      · exact hS.2.2 q h
      · exact hAA _ (hL q h)⟩ T' rfl X'
  exact ⟨t2, st t2 a1, b1⟩
theorem xe_pre {vc : List Value} (hK : va_K D xk_cl (xe_tys E) s) (hP : va_P D xk_cl ws H) (hD : va_D A ws) (hN : ∀ w ∈ xe_N, va_Nw w s) (hAO : va_AO "SlideNight$Slide" s) : ∀ U : State, U.heap = H → s.WarmedH U.vm → va_Pc vc (xe_U D E ws H.size) vc.toArray U := fun U hU hW => ⟨rfl, by rw [hU], by rw [hU]; exact hP, va_K.moved hW.alike hK, hD.weaken (fun _ _ _ _ => trivial), fun w hw => by
    have : ∀ w ∈ xe_N, ∃ (a : String) (i : Nat) (x : MethodName) (h : String), w = .methodLinkNest a i x h := by
      intro w hw
      simp only [xe_N, List.mem_cons, List.not_mem_nil, or_false] at hw
      rcases hw with rfl | rfl | rfl | rfl | rfl | rfl | rfl | rfl | rfl | rfl | rfl <;> exact ⟨_, _, _, _, rfl⟩
    obtain ⟨a, i, x, h, rfl⟩ := this w hw
    exact va_Nw.warmM hW (hN _ hw), va_AO.moved hW.alike hAO⟩
set_option maxHeartbeats 8000000 in
theorem xe_cal_ok {pc : Nat} {q : xe_I} {st : List xe_v} {ar : List xe_v × List xe_v} {stc : List Value} {ls : Array Slot} {outs : List xe_o} (X : xe_X p R s m args meth c D E A b sc d μ) (hk : xe_chk μ q pc = true)
    (hR : xe_R E b as σ ws) (hP : va_P D xk_cl ws H) (hD : va_D A ws) (hS : va_S A s.heap H locs) (hls : ls.size = (xm μ).2.2.1) (hw : xe_w b as st stc) (h : xe_cal q.1 q.2.2.1 q.2.2.2.1 st σ = some ar) (hd : 1 ≤ d) (h8 : Nat.ble (xe_sum ar.2) 8 = true)
    (hM : xe_M l (d - 1) q.2.2.2.1 ar.1 σ outs) (hc1 : cells + (xm q.2.2.2.1).2.2.2.2.1.1 ≤ R.cells) (hc2 : slots + (xm q.2.2.2.1).2.2.2.2.1.2 ≤ R.slots)
    (kk : ∀ o ∈ outs, ∀ (v : Option Value) (as2 : List Nat) (ws2 : va_W) (H1 : Heap) (locs1 : List Loc) (rest : List Value), xe_w b as2 o.1.toList v.toList → xe_m as as2 → xe_R E b as2 o.2 ws2 → va_P D xk_cl ws2 H1 → va_D A ws2 → va_S A s.heap H1 locs1 → xe_w b as ar.2 rest → W p l e R s m args below meth c H1 locs1 (cells + (xm q.2.2.2.1).2.2.2.2.1.1) (slots + (xm q.2.2.2.1).2.2.2.2.1.2) Q (F0 m (pc + 3) ls (v.toList ++ rest))) : W p l e R s m args below meth c H locs cells slots Q (F0 m pc ls stc) := by
  obtain ⟨I, len, x, y, z⟩ := q
  unfold xe_chk at hk
  dsimp only at h hk kk hM hc1 hc2
  rw [Bool.and_eq_true, Bool.and_eq_true] at hk
  obtain ⟨⟨hlen, hdg0⟩, hcw⟩ := hk
  have hdg := of_decide_eq_true hdg0
  clear hdg0
  obtain ⟨⟨hx, hb, hml, hown, hret, hnm, hlk⟩, ⟨hts, hN, hAO, hK⟩, ⟨hA, hd1, hd2, hd3, hd4⟩, -⟩ := id X
  have hroom : (xe_rm (d - 1) y).frames + 1 ≤ R.frames := by show d - 1 + 1 ≤ R.frames; omega
  unfold xe_cal at h
  split at h
  · have hlen : len = 3 := xe_l1 hlen rfl (by decide)
    subst hlen
    split at h
    · next t =>
      cases h
      simp only [Bool.and_eq_true] at t
      obtain ⟨⟨t1, t2⟩, t3⟩ := t
      have t2 : (xm y).2.2.2.2.2.2.2 = 0 := by simpa using t2
      have t3 := Nat.le_of_ble_eq_true t3
      have hy := xm_lt (y := y) (by omega)
      obtain ⟨m1, m2, m3, m4, m5, m6, m7, m8, m9, m10, m11⟩ := xm_ok hy
      obtain ⟨w1, w2⟩ := xe_w_split (xm y).2.2.2.2.2.1 hw
      have w1r := xe_w_rev w1
      have hmet := hM D E b as ws H.size _ hR w1r
      have hn : (stc.take (xm y).2.2.2.2.2.1).reverse.length = (xm y).2.2.2.2.2.1 := by rw [List.length_reverse, List.length_take, xe_w_len hw]; omega
      have hst : stc = (stc.take (xm y).2.2.2.2.2.1).reverse.reverse ++ stc.drop (xm y).2.2.2.2.2.1 := by rw [List.reverse_reverse, List.take_append_drop]
      have hlo : 8 + ((xm y).2.2.1 + 11) + (xe_rm (d - 1) y).locals ≤ R.locals := by show 8 + ((xm y).2.2.1 + 11) + 64 * (d - 1) ≤ R.locals; omega
      have hpre : PreS s H (va_Pc (stc.take (xm y).2.2.2.2.2.1).reverse (xe_U D E ws H.size)) (stc.take (xm y).2.2.2.2.2.1).reverse := ⟨xe_blind, xe_pre hK hP hD hN hAO⟩
      unfold xe_cw at hcw
      dsimp only at hcw
      by_cases hx0 : (x == 0) = true
      · rw [if_pos hx0] at hcw
        have hlink := xt_mem (of_decide_eq_true hcw)
        have cw := va_cwS (R := R) (s := s) (args := args) (own := (xm μ).1.cls) (index := _) (y := (xm y).1) (bytes := (xm y).2.1) (maxL := (xm y).2.2.1) (ret := (xm y).2.2.2.1) (Ts := xe_T) (ws := xe_ws y) (ws' := xe_T) (rm := xe_rm (d - 1) y) (mc := (xm y).2.2.2.2.1.1) (ms := (xm y).2.2.2.2.1.2) (xm y).2.2.2.2.2.1 hts (xe_GT (fun w hw => by
          rcases List.mem_append.mp hw with hw | hw
          · simp only [List.mem_cons, List.not_mem_nil, or_false] at hw
            rcases hw with rfl | rfl | rfl
            · exact hlink
            · exact m2 t2
            · exact m1
          · exact xe_ws_in hy w hw)) rfl rfl rfl ⟨m7, m8, m9⟩ ⟨hroom, hlo⟩
        refine xe_back (va_runS (As := (stc.take (xm y).2.2.2.2.2.1).reverse) (rest := stc.drop (xm y).2.2.2.2.2.1) ⟨hx, hb, hml, hown, hts⟩ hmet cw hpre rfl hn hls hst (lv_room (xe_sum8 w2 h8)) hdg ⟨hc1, hc2⟩) hS hD hA (fun o ho v as2 ws2 H1 locs1 a1 a2 a3 a4 a5 a6 => kk o ho v as2 ws2 H1 locs1 _ a1 a2 a3 a4 a5 a6 w2)
      · rw [if_neg hx0] at hcw
        have hx1 : (x == 1) = true := by
          rw [Bool.or_eq_true] at t1
          rcases t1 with t1 | t1
          · exact absurd t1 hx0
          · exact t1
        rw [if_pos hx1] at hcw
        have hlink := hN _ (List.mem_of_getElem? (of_decide_eq_true hcw))
        have cw := va_cnB (R := R) (s := s) (args := args) (own := (xm μ).1.cls) (host := "SlideNight") (index := _) (y := (xm y).1) (bytes := (xm y).2.1) (maxL := (xm y).2.2.1) (ret := (xm y).2.2.2.1) (Ts := xe_T) (ws := xe_ws y) (ws' := xe_T) (rm := xe_rm (d - 1) y) (mc := (xm y).2.2.2.2.1.1) (ms := (xm y).2.2.2.2.1.2) (xm y).2.2.2.2.2.1 hts (xe_GT (xe_ws_in hy)) rfl rfl rfl hlink (hts _ m1) ⟨m7, m8, m9⟩ ⟨hroom, hlo⟩
        refine xe_back (va_runSN (As := (stc.take (xm y).2.2.2.2.2.1).reverse) (rest := stc.drop (xm y).2.2.2.2.2.1) ⟨hx, hb, hml, hown, hts⟩ hmet ⟨cw, hts _ (m2 t2), trivial⟩ hpre rfl hn hls hst (lv_room (xe_sum8 w2 h8)) hdg ⟨hc1, hc2⟩) hS hD hA (fun o ho v as2 ws2 H1 locs1 a1 a2 a3 a4 a5 a6 => kk o ho v as2 ws2 H1 locs1 _ a1 a2 a3 a4 a5 a6 w2)
    · cases h
  · have hlen : len = 3 := xe_l1 hlen rfl (by decide)
    subst hlen
    split at h
    · next t =>
      simp only [Bool.and_eq_true] at t
      obtain ⟨⟨t1, t2⟩, t3⟩ := t
      have t2 : (xm y).2.2.2.2.2.2.2 = 1 := by simpa using t2
      have t3 := Nat.le_of_ble_eq_true t3
      have hy := xm_lt (y := y) (by omega)
      obtain ⟨m1, m2, m3, m4, m5, m6, m7, m8, m9, m10, m11⟩ := xm_ok hy
      obtain ⟨w1, w2⟩ := xe_w_split (xm y).2.2.2.2.2.1 hw
      split at h
      · next a r hdr =>
        rw [hdr] at w2
        obtain ⟨u, m22, hu, hg, hm22⟩ := xe_w_cons w2
        split at h
        · next t4 =>
          obtain ⟨qa, hq, rfl⟩ := xe_g3 t4 hg
          split at h
          · next cl hc =>
            obtain ⟨e1, he1, hr1⟩ := xe_R_at hR hq hc
            split at h
            · next t5 =>
              cases h
              rw [Bool.and_eq_true] at t5
              obtain ⟨fs, rfl, -⟩ := xe_r0 t5.1 hr1
              have hci : cl.2.1 = (xm y).2.2.2.2.2.2.1 := by simpa using t5.2
              rw [hci] at he1
              obtain ⟨cc, hcc, hcn⟩ := m11
              have w1r := xe_w_rev w1
              have hmet := hM D E b as ws H.size (.ref qa :: (stc.take (xm y).2.2.2.2.2.1).reverse) hR ⟨hg, w1r⟩
              have hn : (stc.take (xm y).2.2.2.2.2.1).reverse.length = (xm y).2.2.2.2.2.1 := by rw [List.length_reverse, List.length_take, xe_w_len hw]; omega
              have hst : stc = (stc.take (xm y).2.2.2.2.2.1).reverse.reverse ++ .ref qa :: m22 := by rw [List.reverse_reverse, ← hu, List.take_append_drop]
              have hlo : 8 + ((xm y).2.2.1 + 11) + (xe_rm (d - 1) y).locals ≤ R.locals := by show 8 + ((xm y).2.2.1 + 11) + 64 * (d - 1) ≤ R.locals; omega
              unfold xe_cw at hcw
              dsimp only at hcw
              rw [if_pos t1] at hcw
              have hlink := xt_mem (of_decide_eq_true hcw)
              have hrec := va_recv hK hP hcc he1
              rw [hcn] at hrec
              have cw := cwV (R := R) (s := s) (args := args) (own := (xm μ).1.cls) (C := (xm y).1.cls) (index := _) (y := (xm y).1) (bytes := (xm y).2.1) (maxL := (xm y).2.2.1) (ret := (xm y).2.2.2.1) (Ts := xe_T) (ws := xe_ws y) (ws' := xe_T) (rm := xe_rm (d - 1) y) (mc := (xm y).2.2.2.2.1.1) (ms := (xm y).2.2.2.2.1.2) (xm y).2.2.2.2.2.1 hts (xe_GT (fun w hw => by
                rcases List.mem_append.mp hw with hw | hw
                · simp only [List.mem_cons, List.not_mem_nil, or_false] at hw
                  rcases hw with rfl | rfl | rfl | rfl
                  · exact hlink
                  · exact m3 (by omega)
                  · exact m4 t2
                  · exact m1
                · exact xe_ws_in hy w hw)) rfl rfl rfl ⟨rfl, m7, m8, m9⟩ ⟨hroom, hlo⟩
              refine xe_back (va_runV (As := (stc.take (xm y).2.2.2.2.2.1).reverse) (rest := m22) ⟨hx, hb, hml, hown, hts⟩ hmet cw ⟨xe_blind, hrec, xe_pre hK hP hD hN hAO⟩ rfl hn hls hst (lv_room (xe_sum8 hm22 h8)) hdg ⟨hc1, hc2⟩) hS hD hA (fun o ho v as2 ws2 H1 locs1 a1 a2 a3 a4 a5 a6 => kk o ho v as2 ws2 H1 locs1 _ a1 a2 a3 a4 a5 a6 hm22)
            · cases h
          · cases h
        · cases h
      · cases h
    · cases h
  · have hlen : len = 3 := xe_l1 hlen rfl (by decide)
    subst hlen
    split at h
    · next t =>
      simp only [Bool.and_eq_true] at t
      obtain ⟨⟨t1, t2⟩, t3⟩ := t
      have t2 : (xm y).2.2.2.2.2.2.2 = 2 := by simpa using t2
      have t3 := Nat.le_of_ble_eq_true t3
      have hy := xm_lt (y := y) (by omega)
      obtain ⟨m1, m2, m3, m4, m5, m6, m7, m8, m9, m10, m11⟩ := xm_ok hy
      obtain ⟨w1, w2⟩ := xe_w_split (xm y).2.2.2.2.2.1 hw
      split at h
      · next a r hdr =>
        rw [hdr] at w2
        obtain ⟨u, m22, hu, hg, hm22⟩ := xe_w_cons w2
        split at h
        · next t4 =>
          cases h
          obtain ⟨qa, hq, rfl⟩ := xe_g3 t4 hg
          have w1r := xe_w_rev w1
          have hmet := hM D E b as ws H.size (.ref qa :: (stc.take (xm y).2.2.2.2.2.1).reverse) hR ⟨hg, w1r⟩
          have hn : (stc.take (xm y).2.2.2.2.2.1).reverse.length = (xm y).2.2.2.2.2.1 := by rw [List.length_reverse, List.length_take, xe_w_len hw]; omega
          have hst : stc = (stc.take (xm y).2.2.2.2.2.1).reverse.reverse ++ .ref qa :: m22 := by rw [List.reverse_reverse, ← hu, List.take_append_drop]
          have hlo : 8 + ((xm y).2.2.1 + 11) + (xe_rm (d - 1) y).locals ≤ R.locals := by show 8 + ((xm y).2.2.1 + 11) + 64 * (d - 1) ≤ R.locals; omega
          unfold xe_cw at hcw
          dsimp only at hcw
          rw [if_pos t1] at hcw
          have hlink := hts _ (xt_mem (of_decide_eq_true hcw))
          obtain ⟨n1, n2⟩ := m5 t2
          have cw := cwI (R := R) (s := s) (args := args) (own := (xm μ).1.cls) (index := _) (y := (xm y).1) (bytes := (xm y).2.1) (maxL := (xm y).2.2.1) (Ts := xe_T) (ws := xe_ws y) (ws' := xe_T) (rm := xe_rm (d - 1) y) (mc := (xm y).2.2.2.2.1.1) (ms := (xm y).2.2.2.2.1.2) (xm y).2.2.2.2.2.1 hts (xe_GT (xe_ws_in hy)) (by unfold xe_ws; rw [n2]) rfl rfl (hts _ m1) hlink (hts _ (m3 (by omega))) n1 ⟨m7, m8, m9⟩ ⟨hroom, hlo⟩
          refine xe_back (va_runI (As := (stc.take (xm y).2.2.2.2.2.1).reverse) (rest := m22) ⟨hx, hb, hml, hown, hts⟩ hmet cw ⟨xe_blind, xe_pre hK hP hD hN hAO⟩ rfl hn hls hst (lv_room (xe_sum8 hm22 h8)) hdg ⟨hc1, hc2⟩) hS hD hA (fun o ho v as2 ws2 H1 locs1 a1 a2 a3 a4 a5 a6 => kk o ho v as2 ws2 H1 locs1 _ a1 a2 a3 a4 a5 a6 hm22)
        · cases h
      · cases h
    · cases h
  · cases h
end XCALL
