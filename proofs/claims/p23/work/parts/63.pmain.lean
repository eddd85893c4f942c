/-! the plain machine is right: calls, whole runs -/
def px_Q (ly : List (Nat × Nat)) (D : va_G) (E : Nat → ClassId) (ad : Nat → Nat) (ws : va_W) (sz : Nat) (o : Option pv × pH) : Array Value → State → Outcome → State → Prop := fun _ st oc t =>
  (oc = .returned (o.1.map (pV ad)) ∧ va_P D xk_cl (pW ly E ad o.2) t.heap ∧ va_D (va_A ws sz) (pW ly E ad o.2)) ∧ va_F (va_A ws sz) st t
/-- what a callee starts from -/
def px_U (D : va_G) (E : Nat → ClassId) (ad : Nat → Nat) (ws : va_W) (sz : Nat) (U : State) : Prop := xe_U D E ws sz U ∧ pT ad (va_A ws sz) U U.heap
theorem pT_moved {ad : Nat → Nat} {A B : Nat → Prop} {s U : State} {H0 H : Heap} {locs : List Loc} (hW : s.WarmedH U.vm) (hS : va_S A H0 H locs) (hAB : ∀ q, B q → A q) (h : pT ad A s H0) : pT ad B U H := by
  obtain ⟨⟨adV, hE⟩, hR, hZ⟩ := h
  exact ⟨⟨adV, ((hE.kept hS.2.1).narrow hAB).moved hW.alike⟩, fun y t ht => vk_R.warm hW (hR y t ht), ((hZ.kept hS.2.1).narrow hAB).moved hW.alike⟩
theorem px_blind {vc : List Value} {D : va_G} {E : Nat → ClassId} {ad : Nat → Nat} {ws : va_W} {sz : Nat} : FrameBlind (va_Pc vc (px_U D E ad ws sz)) := fun a U g mk q => by
  obtain ⟨q0, q1, ⟨adV, hE⟩, hR, hZ⟩ := q
  have b := xe_blind (vc := vc) (D := D) (E := E) (ws := ws) (sz := sz) a U g mk ⟨q0, q1⟩
  exact ⟨b.1, b.2, ⟨adV, vk_S.moved (u := U) (U := U.calling g mk a) (Vm.Alike.refl U.vm) hE⟩, fun y t ht => vk_R.same (u := U) (U := U.calling g mk a) rfl (hR y t ht), va_Z.moved (u := U) (U := U.calling g mk a) (Vm.Alike.refl U.vm) hZ⟩
def px_M (ly : List (Nat × Nat)) (l : Launch) (d y : Nat) (vs : List pv) (h : pH) (o : Option pv × pH) : Prop := ∀ (D : va_G) (E : Nat → ClassId) (ad : Nat → Nat) (sz : Nat),
  Met l (xm y).1 (xe_ws y) (xe_rm d y) (va_Pc (vs.map (pV ad)) (px_U D E ad (pW ly E ad h) sz)) (px_Q ly D E ad (pW ly E ad h) sz o) (xm y).2.2.2.2.1.1 (xm y).2.2.2.2.1.2 (va_A (pW ly E ad h) sz)
section PCALL
variable {p : Program} {l : Launch} {e : Env} {R : Room} {s : State} {m : MethodId} {args : Array Value} {below : List Frame} {meth : Method} {c : Code} {H : Heap} {locs : List Loc} {cells slots : Nat} {Q : State → Prop}
variable {D : va_G} {E : Nat → ClassId} {A : Nat → Prop} {b : Nat} {ad : Nat → Nat} {ly : List (Nat × Nat)} {h : pH} {sc : pS} {d μ : Nat}
theorem px_back {pc mc ms : Nat} {ls : Array Slot} {rest st0 : List Value} {a : Array Value} {o : Option pv × pH} {ws : va_W} (hr : va_Run p l e R s m args below meth c H locs cells slots mc ms (F0 m pc ls st0) rest (px_Q ly D E ad ws H.size o a) (va_A ws H.size)) (hS : va_S A s.heap H locs) (hD : va_D A ws) (hA : ∀ q : Nat, s.heap.size ≤ q → A q)
    (kk : ∀ (H1 : Heap) (locs1 : List Loc), va_P D xk_cl (pW ly E ad o.2) H1 → va_D A (pW ly E ad o.2) → va_S A s.heap H1 locs1 → W p l e R s m args below meth c H1 locs1 (cells + mc) (slots + ms) Q (F0 m (pc + 3) ls ((o.1.map (pV ad)).toList ++ rest))) : W p l e R s m args below meth c H locs cells slots Q (F0 m pc ls st0) := by
  intro T hT X
  obtain ⟨v, st₀, t, T', L, h0, X', hL, e1, e2, ⟨⟨hv, hP2, hD2⟩, hz, hk⟩, st⟩ := hr T hT X
  have hv : v = o.1.map (pV ad) := by
    cases hv
    rfl
  subst hv
  rw [h0] at hz hk
  have hAA : ∀ q : Nat, va_A ws H.size q → A q := by
    intro q h
    rcases h with ⟨k, e, h⟩ | h
    · exact hD.2 k (q, e) h
    · exact hA q (Nat.le_trans hS.1 h)
  obtain ⟨t2, a1, b1⟩ := kk T'.heap (locs ++ L) (by rw [e1]; exact hP2) (hD2.weaken (fun k q _ h => hAA q.1 h))
    ⟨Nat.le_trans hS.1 (by rw [e1]; exact hz), fun q h1 h2 => by rw [e1, hk q (Nat.lt_of_lt_of_le h1 hS.1) (fun z => h2 (hAA q z))]; exact hS.2.1 q h1 h2, fun q hq => by
      rcases List.mem_append.mp hq with h | h
      · exact hS.2.2 q h
      · exact hAA _ (hL q h)⟩ T' rfl X'
  exact ⟨t2, st t2 a1, b1⟩
theorem px_len {n : Nat} {st : List pv} (h : n ≤ st.length) : ((st.take n).reverse.map (pV ad)).length = n := by
  rw [List.length_map, List.length_reverse, List.length_take]
  omega
set_option maxHeartbeats 8000000 in
theorem px_cal_ok {pc : Nat} {q : xe_I} {st : List pv} {ar : List pv × List pv} {ls : Array Slot} {o : Option pv × pH} (X : xe_X p R s m args meth c D E A b [] d μ) (hk : xe_chk μ q pc = true)
    (hP : va_P D xk_cl (pW ly E ad h) H) (hD : va_D A (pW ly E ad h)) (hS : va_S A s.heap H locs) (hls : ls.size = (xm μ).2.2.1) (hh : px_cal ly q.1 q.2.2.1 q.2.2.2.1 st = some ar) (hd : 1 ≤ d) (h8 : px_sum ar.2 ≤ 8)
    (hT : pT ad A s s.heap) (hM : px_M ly l (d - 1) q.2.2.2.1 ar.1 h o) (hc1 : cells + (xm q.2.2.2.1).2.2.2.2.1.1 ≤ R.cells) (hc2 : slots + (xm q.2.2.2.1).2.2.2.2.1.2 ≤ R.slots)
    (kk : ∀ (H1 : Heap) (locs1 : List Loc), va_P D xk_cl (pW ly E ad o.2) H1 → va_D A (pW ly E ad o.2) → va_S A s.heap H1 locs1 → W p l e R s m args below meth c H1 locs1 (cells + (xm q.2.2.2.1).2.2.2.2.1.1) (slots + (xm q.2.2.2.1).2.2.2.2.1.2) Q (F0 m (pc + 3) ls ((o.1.map (pV ad)).toList ++ ar.2.map (pV ad)))) : W p l e R s m args below meth c H locs cells slots Q (F0 m pc ls (st.map (pV ad))) := by
  obtain ⟨I, len, x, y, z⟩ := q
  unfold xe_chk at hk
  dsimp only at hh hk kk hM hc1 hc2
  rw [Bool.and_eq_true, Bool.and_eq_true] at hk
  obtain ⟨⟨hlen, hdg0⟩, hcw⟩ := hk
  have hdg := of_decide_eq_true hdg0
  clear hdg0
  obtain ⟨⟨hx, hb, hml, hown, hret, hnm, hlk⟩, ⟨hts, hN, hAO, hK⟩, ⟨hA, hd1, hd2, hd3, hd4⟩, -⟩ := id X
  have hroom : (xe_rm (d - 1) y).frames + 1 ≤ R.frames := by show d - 1 + 1 ≤ R.frames; omega
  have hAn : ∀ q : Nat, va_A (pW ly E ad h) H.size q → A q := fun q hq => by
    rcases hq with ⟨k, e, hq⟩ | hq
    · exact hD.2 k (q, e) hq
    · exact hA q (Nat.le_trans hS.1 hq)
  unfold px_cal at hh
  split at hh
  · have hlen : len = 3 := xe_l1 hlen rfl (by decide)
    subst hlen
    split at hh
    · next t =>
      cases hh
      obtain ⟨t1, t2, t3⟩ := t
      have hy := xm_lt (y := y) (by omega)
      obtain ⟨m1, m2, m3, m4, m5, m6, m7, m8, m9, m10, m11⟩ := xm_ok hy
      have hmet := hM D E ad H.size
      have hn := px_len (ad := ad) t3
      have hst : st.map (pV ad) = ((st.take (xm y).2.2.2.2.2.1).reverse.map (pV ad)).reverse ++ (st.drop (xm y).2.2.2.2.2.1).map (pV ad) := by rw [← List.map_reverse, List.reverse_reverse, ← List.map_append, List.take_append_drop]
      have h8 : (((st.drop (xm y).2.2.2.2.2.1).map (pV ad)).map fun v => v.category).sum ≤ 8 := by rw [px_sum_ok]; exact h8
      have hlo : 8 + ((xm y).2.2.1 + 11) + (xe_rm (d - 1) y).locals ≤ R.locals := by show 8 + ((xm y).2.2.1 + 11) + 64 * (d - 1) ≤ R.locals; omega
      have hpre : PreS s H (va_Pc ((st.take (xm y).2.2.2.2.2.1).reverse.map (pV ad)) (px_U D E ad (pW ly E ad h) H.size)) ((st.take (xm y).2.2.2.2.2.1).reverse.map (pV ad)) := ⟨px_blind, fun U hU hW => ⟨rfl, (xe_pre (vc := []) hK hP hD hN hAO U hU hW).2, by rw [hU]; exact pT_moved hW hS hAn hT⟩⟩
      unfold xe_cw at hcw
      dsimp only at hcw
      by_cases hx0 : x = 0
      · rw [if_pos (by rw [hx0]; rfl)] at hcw
        have hlink := xt_mem (of_decide_eq_true hcw)
        have cw := va_cwS (R := R) (s := s) (args := args) (own := (xm μ).1.cls) (index := _) (y := (xm y).1) (bytes := (xm y).2.1) (maxL := (xm y).2.2.1) (ret := (xm y).2.2.2.1) (Ts := xe_T) (ws := xe_ws y) (ws' := xe_T) (rm := xe_rm (d - 1) y) (mc := (xm y).2.2.2.2.1.1) (ms := (xm y).2.2.2.2.1.2) (xm y).2.2.2.2.2.1 hts (xe_GT (fun w hw => by
          rcases List.mem_append.mp hw with hw | hw
          · simp only [List.mem_cons, List.not_mem_nil, or_false] at hw
            rcases hw with rfl | rfl | rfl
            · exact hlink
            · exact m2 t2
            · exact m1
          · exact xe_ws_in hy w hw)) rfl rfl rfl ⟨m7, m8, m9⟩ ⟨hroom, hlo⟩
        exact px_back (va_runS (As := (st.take (xm y).2.2.2.2.2.1).reverse.map (pV ad)) (rest := (st.drop (xm y).2.2.2.2.2.1).map (pV ad)) ⟨hx, hb, hml, hown, hts⟩ hmet cw hpre rfl hn hls hst (lv_room h8) hdg ⟨hc1, hc2⟩) hS hD hA kk
      · have hx1 : x = 1 := by omega
        rw [if_neg (by simpa using hx0), if_pos (by rw [hx1]; rfl)] at hcw
        have hlink := hN _ (List.mem_of_getElem? (of_decide_eq_true hcw))
        have cw := va_cnB (R := R) (s := s) (args := args) (own := (xm μ).1.cls) (host := "SlideNight") (index := _) (y := (xm y).1) (bytes := (xm y).2.1) (maxL := (xm y).2.2.1) (ret := (xm y).2.2.2.1) (Ts := xe_T) (ws := xe_ws y) (ws' := xe_T) (rm := xe_rm (d - 1) y) (mc := (xm y).2.2.2.2.1.1) (ms := (xm y).2.2.2.2.1.2) (xm y).2.2.2.2.2.1 hts (xe_GT (xe_ws_in hy)) rfl rfl rfl hlink (hts _ m1) ⟨m7, m8, m9⟩ ⟨hroom, hlo⟩
        exact px_back (va_runSN (As := (st.take (xm y).2.2.2.2.2.1).reverse.map (pV ad)) (rest := (st.drop (xm y).2.2.2.2.2.1).map (pV ad)) ⟨hx, hb, hml, hown, hts⟩ hmet ⟨cw, hts _ (m2 t2), trivial⟩ hpre rfl hn hls hst (lv_room h8) hdg ⟨hc1, hc2⟩) hS hD hA kk
    · cases hh
  · have hlen : len = 3 := xe_l1 hlen rfl (by decide)
    subst hlen
    split at hh
    · next t =>
      obtain ⟨t1, t2, t3⟩ := t
      have hy := xm_lt (y := y) (by omega)
      obtain ⟨m1, m2, m3, m4, m5, m6, m7, m8, m9, m10, m11⟩ := xm_ok hy
      split at hh
      · next k r hdr =>
        split at hh
        · next hk2 =>
          cases hh
          obtain ⟨cc, hcc, hcn⟩ := m11
          have hat := pW_at (E := E) (ad := ad) (h := h) hk2
          have hmet := hM D E ad H.size
          have hn := px_len (ad := ad) t3
          have hst : st.map (pV ad) = ((st.take (xm y).2.2.2.2.2.1).reverse.map (pV ad)).reverse ++ .ref (ad k) :: r.map (pV ad) := by
            have e1 : .ref (ad k) :: r.map (pV ad) = (st.drop (xm y).2.2.2.2.2.1).map (pV ad) := by rw [hdr]; rfl
            rw [e1, ← List.map_reverse, List.reverse_reverse, ← List.map_append, List.take_append_drop]
          have h8 : ((r.map (pV ad)).map fun v => v.category).sum ≤ 8 := by rw [px_sum_ok]; exact h8
          have hlo : 8 + ((xm y).2.2.1 + 11) + (xe_rm (d - 1) y).locals ≤ R.locals := by show 8 + ((xm y).2.2.1 + 11) + 64 * (d - 1) ≤ R.locals; omega
          unfold xe_cw at hcw
          dsimp only at hcw
          rw [if_pos (by rw [t1]; rfl)] at hcw
          have hlink := xt_mem (of_decide_eq_true hcw)
          have hrec := va_recv hK hP hcc hat
          rw [hcn] at hrec
          have cw := cwV (R := R) (s := s) (args := args) (own := (xm μ).1.cls) (C := (xm y).1.cls) (index := _) (y := (xm y).1) (bytes := (xm y).2.1) (maxL := (xm y).2.2.1) (ret := (xm y).2.2.2.1) (Ts := xe_T) (ws := xe_ws y) (ws' := xe_T) (rm := xe_rm (d - 1) y) (mc := (xm y).2.2.2.2.1.1) (ms := (xm y).2.2.2.2.1.2) (xm y).2.2.2.2.2.1 hts (xe_GT (fun w hw => by
            rcases List.mem_append.mp hw with hw | hw
            · simp only [List.mem_cons, List.not_mem_nil, or_false] at hw
              rcases hw with rfl | rfl | rfl | rfl
              · exact hlink
              · exact m3 (by omega)
              · exact m4 t2
              · exact m1
            · exact xe_ws_in hy w hw)) rfl rfl rfl ⟨rfl, m7, m8, m9⟩ ⟨hroom, hlo⟩
          exact px_back (va_runV (As := (st.take (xm y).2.2.2.2.2.1).reverse.map (pV ad)) (rest := r.map (pV ad)) ⟨hx, hb, hml, hown, hts⟩ hmet cw ⟨px_blind, hrec, fun U hU hW => ⟨rfl, (xe_pre (vc := []) hK hP hD hN hAO U hU hW).2, by rw [hU]; exact pT_moved hW hS hAn hT⟩⟩ rfl hn hls hst (lv_room h8) hdg ⟨hc1, hc2⟩) hS hD hA kk
        · cases hh
      · cases hh
    · cases hh
  · cases hh
end PCALL
/-- what is asked of the end -/
def px_RT (ly : List (Nat × Nat)) (p : Program) (l : Launch) (e : Env) (R : Room) (s : State) (m : MethodId) (args : Array Value) (below : List Frame) (meth : Method) (c : Code) (Q : State → Prop) (D : va_G) (E : Nat → ClassId) (A : Nat → Prop) (ad : Nat → Nat) (μ c0 s0 : Nat) (o : Option pv × pH) : Prop :=
  ∀ (pc : Nat) (q : xe_I) (st : List pv) (h : pH) (r : Option pv) (H : Heap) (locs : List Loc) (ls : Array Slot), xe_chk μ q pc = true → px_ret (xm μ).2.2.2.1 q.1 st = some r → (r, h) = o → va_P D xk_cl (pW ly E ad h) H → va_D A (pW ly E ad h) → va_S A s.heap H locs → W p l e R s m args below meth c H locs c0 s0 Q (F0 m pc ls (st.map (pV ad)))
def px_Gd (ly : List (Nat × Nat)) (l : Launch) (d : Nat) (sc : pS) (μ pc : Nat) (lv : List (Nat × pv)) (st : List pv) (h : pH) (o : Option pv × pH) : Prop :=
  ∀ (p : Program) (e : Env) (R : Room) (s : State) (m : MethodId) (args : Array Value) (below : List Frame) (meth : Method) (c : Code) (Q : State → Prop) (D : va_G) (E : Nat → ClassId) (A : Nat → Prop) (b c0 s0 : Nat) (ad : Nat → Nat),
    xe_X p R s m args meth c D E A b [] d μ → pSS sc ad s A → px_RT ly p l e R s m args below meth c Q D E A ad μ c0 s0 o → c0 ≤ R.cells ∧ s0 ≤ R.slots →
    ∀ (H : Heap) (locs : List Loc) (ls : Array Slot), va_P D xk_cl (pW ly E ad h) H → va_D A (pW ly E ad h) → va_S A s.heap H locs → lv_has ls (xm μ).2.2.1 (pL ad lv) →
    W p l e R s m args below meth c H locs c0 s0 Q (F0 m pc ls (st.map (pV ad)))
theorem px_ar_ok (ad : Nat → Nat) : ∀ (vs : List pv) (i : Nat), lv_args i (vs.map (pV ad)) = pL ad (px_ar i vs)
  | [], i => rfl
  | a :: l, i => by
    show (i, pV ad a) :: lv_args _ (l.map (pV ad)) = (i, pV ad a) :: pL ad (px_ar _ l)
    have e : (if (pV ad a).category = 2 then i + 2 else i + 1) = (if pc2 a then i + 2 else i + 1) := by
      rw [pV_cat]
      cases pc2 a <;> rfl
    rw [e, px_ar_ok ad l]
theorem px_sl_ok (ad : Nat → Nat) : ∀ vs : List pv, (lg_sl (vs.map (pV ad))).length = px_sum vs
  | [] => rfl
  | a :: l => by
    have ih := px_sl_ok ad l
    unfold lg_sl at ih ⊢
    rw [List.map_cons, List.flatMap_cons, List.length_append, ih, pV_cat]
    show _ = (if pc2 a then 2 else 1) + px_sum l
    cases pc2 a <;> rfl
set_option maxHeartbeats 8000000 in
theorem px_Met {ly : List (Nat × Nat)} {l : Launch} {d y : Nat} {vs : List pv} {h : pH} {o : Option pv × pH} (hy : y < 276) (hs : px_sum vs ≤ (xm y).2.2.1) (hG : px_Gd ly l d none y 0 (px_ar 0 vs) [] h o) : px_M ly l d y vs h o := by
  intro D E ad sz
  obtain ⟨m1, m2, m3, m4, m5, m6, m7, m8, m9, m10, m11⟩ := xm_ok hy
  refine Met.ofW (cc := (xm y).2.1) (maxL := (xm y).2.2.1) (ret := (xm y).2.2.2.1) m6 rfl ?_
  intro p e s m args below meth c s₁ B hml hv
  obtain ⟨rfl, ⟨hsz, hP, hK, hD0, hN, hAO⟩, hTx⟩ := hv
  have hx := B.exec
  have hb := B.bytes
  have hr := B.returns
  have hts := atoms_spec (ws := xe_ws y) B.pre
  have hown : s.vm.findClass (xm y).1.cls = some m.cls := findClass_of_methodNamed B.named
  have hlocks := B.notSynchronized
  have hnm : meth.name = (xm y).1.name := (name_of_methodNamed B.named B.method).1
  subst hsz
  have hD := hD0.self (sz := s.heap.size)
  have hl := lv_entry (vs.map (pV ad)) (n := (xm y).2.2.1) (by rw [px_sl_ok]; exact hs)
  rw [lg_entry_eq]
  generalize (lg_sl (vs.map (pV ad)) ++ List.replicate ((xm y).2.2.1 - (lg_sl (vs.map (pV ad))).length) Slot.unset).toArray = ls at hl ⊢
  rw [px_ar_ok ad vs 0] at hl
  have X : xe_X p (headSpec (xe_ws y) (xe_rm d y)).room s m (vs.map (pV ad)).toArray meth c D E (va_A (pW ly E ad h) s.heap.size) 0 [] d y :=
    ⟨⟨hx, hb, hml, hown, hr, fun _ => hnm, hlocks⟩, ⟨fun w hw => hts w (List.mem_cons_of_mem _ hw), hN, hAO, hK⟩, ⟨fun q h => Or.inr h, Nat.le_refl _, Nat.le_refl _, Nat.le_refl _, Nat.le_refl _⟩, Or.inl rfl⟩
  refine hG p e _ s m (vs.map (pV ad)).toArray below meth c _ D E (va_A (pW ly E ad h) s.heap.size) 0 0 0 ad X ⟨Or.inl rfl, hTx⟩ ?_ ⟨Nat.zero_le _, Nat.zero_le _⟩ s.heap [] ls hP hD va_S.rf hl
  intro pc q st h2 r H locs ls2 hk hret hO hP2 hD2 hS2
  subst hO
  obtain ⟨I, len, x, y2, z⟩ := q
  unfold xe_chk at hk
  dsimp only at hk hret
  rw [Bool.and_eq_true, Bool.and_eq_true] at hk
  obtain ⟨⟨hlen, hdg0⟩, hcw⟩ := hk
  have hdg := of_decide_eq_true hdg0
  clear hdg0
  refine W.widen (k := (xm y).2.2.2.2.1.1) (n := (xm y).2.2.2.2.1.2) (Nat.zero_le _) (Nat.zero_le _) ?_
  unfold px_ret at hret
  split at hret
  · next x0 =>
    have hlen : len = 1 := xe_l1 hlen rfl (by decide)
    subst hlen
    generalize hty : (xm y).2.2.2.1 = ty at hret hr
    split at hret
    · cases hret
      exact W.iret hx hb hr (fun t ht hW => ⟨⟨rfl, by rw [ht]; exact hP2, hD2⟩, hS2.F ht⟩) hS2.2.2 hdg hlocks
    · split at hret
      · next g =>
        cases hret
        refine W.zret hx hb hr ?_ (fun t ht hW => ⟨⟨rfl, by rw [ht]; exact hP2, hD2⟩, hS2.F ht⟩) hS2.2.2 hdg hlocks
        rcases g with rfl | rfl <;> decide +kernel
      · cases hret
    · cases hret
  · next x0 =>
    have hlen : len = 1 := xe_l1 hlen rfl (by decide)
    subst hlen
    split at hret
    · next t =>
      cases hret
      generalize hty : (xm y).2.2.2.1 = ty at t hr
      unfold xe_rl at t
      split at t
      · exact W.lret hx hb hr (fun t ht hW => ⟨⟨rfl, by rw [ht]; exact hP2, hD2⟩, hS2.F ht⟩) hS2.2.2 hdg hlocks
      · cases t
    · cases hret
  · next x0 =>
    have hlen : len = 1 := xe_l1 hlen rfl (by decide)
    subst hlen
    split at hret
    · next t =>
      cases hret
      have hv : pV ad (.inr (.inr x0)) = .null ∨ ∃ a, pV ad (.inr (.inr x0)) = .ref a := by
        cases x0 with
        | none => exact Or.inl rfl
        | some k => exact Or.inr ⟨_, rfl⟩
      generalize hty : (xm y).2.2.2.1 = ty at t hr
      unfold xe_rr at t
      split at t
      · exact W.aret hx hb hr (Or.inl ⟨_, rfl⟩) hv (fun t ht hW => ⟨⟨rfl, by rw [ht]; exact hP2, hD2⟩, hS2.F ht⟩) hS2.2.2 hdg hlocks
      · cases t
    · cases hret
  · have hlen : len = 1 := xe_l1 hlen rfl (by decide)
    subst hlen
    split at hret
    · next t =>
      cases hret
      have hn : (xm y).2.2.2.1 = none := by simpa using t
      rw [hn] at hr
      exact W.vret hx hb hr (fun t ht hW => ⟨⟨rfl, by rw [ht]; exact hP2, hD2⟩, hS2.F ht⟩) hS2.2.2 hdg hlocks
    · cases hret
  · cases hret
set_option maxHeartbeats 8000000 in
theorem px_step_ok {ly : List (Nat × Nat)} {l : Launch} {d μ pc : Nat} {sc : pS} {K : px_KT} {call : px_CT} {q : xe_I} {lv : List (Nat × pv)} {st : List pv} {h : pH} {o : Option pv × pH} (hk : xe_chk μ q pc = true)
    (hK : ∀ (pc2 : Nat) (lv2 : List (Nat × pv)) (st2 : List pv) (h2 : pH) (o2 : Option pv × pH), K pc2 lv2 st2 h2 = some o2 → px_Gd ly l d sc μ pc2 lv2 st2 h2 o2)
    (hC : ∀ (y : Nat) (vs : List pv) (h2 : pH) (o2 : Option pv × pH), call y vs h2 = some o2 → y < 276 → px_sum vs ≤ (xm y).2.2.1 → px_M ly l (d - 1) y vs h2 o2)
    (hh : px_step ly d sc μ K call q pc lv st h = some o) : px_Gd ly l d sc μ pc lv st h o := by
  intro p e R s m args below meth c Q D E A b c0 s0 ad X hsc hRT hoff H locs ls hP hD hS hl
  unfold px_step at hh
  generalize hkd : px_kd q.1 q.2.2.1 = kd at hh
  match kd, hh with
  | 0, hh =>
    have hh : px_h0 ly d sc μ K call q pc lv st h = some o := hh
    unfold px_h0 at hh
    split at hh
    · next st2 hst => exact px_push_ok X hsc hk hP hS hl hoff hst (hK _ _ _ _ _ hh p e R s m args below meth c Q D E A b c0 s0 ad X hsc hRT hoff H locs ls hP hD hS hl)
    · cases hh
  | 1, hh =>
    have hh : px_h1 ly d sc μ K call q pc lv st h = some o := hh
    unfold px_h1 at hh
    split at hh
    · next t ht => exact px_br_ok X hk ht (hK _ _ _ _ _ hh p e R s m args below meth c Q D E A b c0 s0 ad X hsc hRT hoff H locs ls hP hD hS hl)
    · cases hh
  | 2, hh =>
    have hh : px_h2 ly d sc μ K call q pc lv st h = some o := hh
    unfold px_h2 at hh
    split at hh
    · next w hw9 => exact px_sto_ok X hk hl hw9 (fun ls2 hl2 => hK _ _ _ _ _ hh p e R s m args below meth c Q D E A b c0 s0 ad X hsc hRT hoff H locs ls2 hP hD hS hl2)
    · cases hh
  | 3, hh =>
    have hh : px_h3 ly d sc μ K call q pc lv st h = some o := hh
    unfold px_h3 at hh
    split at hh
    · next ar har =>
      split at hh
      · next g =>
        obtain ⟨g1, g2, g3, g4⟩ := g
        split at hh
        · next o2 ho2 =>
          have hy : q.2.2.2.1 < 276 := by
            obtain ⟨I, len, x, y, z⟩ := q
            dsimp only at har ⊢
            unfold px_cal at har
            refine xm_lt ?_
            split at har
            · split at har
              · next t => omega
              · cases har
            · split at har
              · next t => omega
              · cases har
            · cases har
          have hc1 : (xm q.2.2.2.1).2.2.2.2.1.1 = 0 := by rw [g4]
          have hc2 : (xm q.2.2.2.1).2.2.2.2.1.2 = 0 := by rw [g4]
          refine px_cal_ok X hk hP hD hS hl.1 har g1 g2 hsc.2 (hC _ _ _ _ ho2 hy g3) (by omega) (by omega) (fun H1 locs1 a3 a4 a5 => ?_)
          have hfin := hK _ _ _ _ _ hh p e R s m args below meth c Q D E A b c0 s0 ad X hsc hRT hoff H1 locs1 ls a3 a4 a5 hl
          rw [hc1, hc2, Nat.add_zero, Nat.add_zero]
          have e1 : (o2.1.toList ++ ar.2).map (pV ad) = (o2.1.map (pV ad)).toList ++ ar.2.map (pV ad) := by
            rw [List.map_append]
            cases o2.1 <;> rfl
          rw [e1] at hfin
          exact hfin
        · cases hh
      · cases hh
    · cases hh
  | 4, hh =>
    have hh : px_h4 ly d sc μ K call q pc lv st h = some o := hh
    unfold px_h4 at hh
    split at hh
    · next w hw9 =>
      refine px_wr_ok X hk (fun h2 => ?_) hP hD hS hl.1 hw9 (fun H2 locs2 a2 a3 a4 => hK _ _ _ _ _ hh p e R s m args below meth c Q D E A b c0 s0 ad X hsc hRT hoff H2 locs2 ls a2 a3 a4 hl)
      rw [X.1.2.2.2.2.2.1 h2]
      exact ((xm_ok (xm_lt (by omega))).2.2.2.2.1 h2).1
    · cases hh
  | 5, hh =>
    have hh : px_h5 ly d sc μ K call q pc lv st h = some o := hh
    unfold px_h5 at hh
    split at hh
    · next r hr9 =>
      cases hh
      exact hRT pc q st h r H locs ls hk hr9 rfl hP hD hS
    · cases hh
  | 6, hh =>
    have hh : px_h5 ly d sc μ K call q pc lv st h = some o := hh
    unfold px_h5 at hh
    split at hh
    · next r hr9 =>
      cases hh
      exact hRT pc q st h r H locs ls hk hr9 rfl hP hD hS
    · cases hh
  | 7, hh =>
    have hh : px_h6 ly d sc μ K call q pc lv st h = some o := hh
    unfold px_h6 at hh
    split at hh
    · next st2 hst =>
      exact px_ixo_ok X hsc hk hkd hP hD hS hl.1 hoff hst (fun H1 locs1 a3 a4 a5 => hK _ _ _ _ _ hh p e R s m args below meth c Q D E A b c0 s0 ad X hsc hRT hoff H1 locs1 ls a3 a4 a5 hl)
    · cases hh
  | k + 8, hh =>
    have hh : px_h5 ly d sc μ K call q pc lv st h = some o := hh
    unfold px_h5 at hh
    split at hh
    · next r hr9 =>
      cases hh
      exact hRT pc q st h r H locs ls hk hr9 rfl hP hD hS
    · cases hh
theorem px_run_ok (ly : List (Nat × Nat)) (l : Launch) : ∀ (n : Nat) {d μ pc : Nat} {sc : pS} {lv : List (Nat × pv)} {st : List pv} {h : pH} {o : Option pv × pH}, px_run ly n d sc μ pc lv st h = some o → px_Gd ly l d sc μ pc lv st h o
  | 0, _, _, _, _, _, _, _, _, hh => by cases hh
  | n + 1, d, μ, pc, sc, lv, st, h, o, hh => by
    unfold px_run at hh
    split at hh
    · next q hq =>
      exact px_step_ok (xe_ck hq) (fun pc2 lv2 st2 h2 o2 hh2 => px_run_ok ly l n hh2) (fun y vs h2 o2 hh2 hy hs => px_Met hy hs (px_run_ok ly l n hh2)) hh
    · cases hh
/-- a method's contract out of a run of the plain machine -/
theorem px_met (ly : List (Nat × Nat)) (l : Launch) {n d y : Nat} {vs : List pv} {h : pH} {o : Option pv × pH} (hy : y < 276) (hs : px_sum vs ≤ (xm y).2.2.1) (hh : px_run ly n d none y 0 (px_ar 0 vs) [] h = some o) : px_M ly l d y vs h o := px_Met hy hs (px_run_ok ly l n hh)
