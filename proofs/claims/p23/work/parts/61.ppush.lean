/-! the plain machine is right: worlds, and what only changes the stack -/
theorem pV_cat (ad : Nat → Nat) (v : pv) : (pV ad v).category = if pc2 v then 2 else 1 := by
  rcases v with x | x | (_ | k) <;> rfl
theorem pV_rf (ad : Nat → Nat) (r : Option Nat) : pV ad (.inr (.inr r)) = va_rf (r.map ad) := by cases r <;> rfl
theorem pW_at {ly : List (Nat × Nat)} {E : Nat → ClassId} {ad : Nat → Nat} {h : pH} {k : Nat} {t : Nat × Nat} (ht : ly[k]? = some t) : (pW ly E ad h)[k]? = some (ad k, pCe E ad h k t) := by
  have hl : k < ly.length := (List.getElem?_eq_some_iff.mp ht).1
  unfold pW
  rw [List.getElem?_map, List.getElem?_range hl, Option.map_some, List.getD_eq_getElem?_getD, ht]
  rfl
theorem pW_set {ly : List (Nat × Nat)} {E : Nat → ClassId} {ad : Nat → Nat} {h h2 : pH} {k : Nat} {t : Nat × Nat} (ht : ly[k]? = some t) (hs : ∀ (k2 : Nat) (t2 : Nat × Nat), k2 ≠ k → pCe E ad h2 k2 t2 = pCe E ad h k2 t2) : (pW ly E ad h).set k (ad k, pCe E ad h2 k t) = pW ly E ad h2 := by
  refine List.ext_getElem? (fun j => ?_)
  have hl : k < ly.length := (List.getElem?_eq_some_iff.mp ht).1
  have hn : (pW ly E ad h).length = ly.length := by unfold pW; rw [List.length_map, List.length_range]
  by_cases e : k = j
  · subst e
    rw [List.getElem?_set_self (by rw [hn]; exact hl), pW_at ht]
  · rw [List.getElem?_set_ne e]
    cases hj : ly[j]? with
    | none =>
      have hjl : ly.length ≤ j := List.getElem?_eq_none_iff.mp hj
      rw [List.getElem?_eq_none (by rw [hn]; exact hjl), List.getElem?_eq_none (by unfold pW; rw [List.length_map, List.length_range]; exact hjl)]
    | some t2 =>
      rw [pW_at hj, pW_at hj, hs j t2 (fun z => e z.symm)]
theorem px_sum_ok (ad : Nat → Nat) : ∀ st : List pv, ((st.map (pV ad)).map fun v => v.category).sum = px_sum st
  | [] => rfl
  | a :: l => by
    rw [List.map_cons, List.map_cons, List.sum_cons, px_sum_ok ad l, pV_cat]
    rfl
def pL (ad : Nat → Nat) (lv : List (Nat × pv)) : List (Nat × Value) := lv.map (fun q => (q.1, pV ad q.2))
theorem px_lg_ok {ad : Nat → Nat} {i : Nat} {a : pv} : ∀ {lv : List (Nat × pv)}, px_lg lv i = some a → ∃ k : Nat, (pL ad lv)[k]? = some (i, pV ad a)
  | [], h => by cases h
  | (j, c) :: l, h => by
    unfold px_lg at h
    split at h
    · next e =>
      have e : j = i := by simpa using e
      subst e
      cases h
      exact ⟨0, rfl⟩
    · obtain ⟨k, hk⟩ := px_lg_ok (ad := ad) h
      exact ⟨k + 1, hk⟩
/-- the texts stand at the roles 1001 to 1005 -/
def pT (ad : Nat → Nat) (A : Nat → Prop) (U : State) (H : Heap) : Prop := (∃ adV, vk_S 5 js_len js_by (fun i => ad (1001 + i)) adV A U H) ∧ (∀ (y : Nat) (t : String × Nat × String), xs_T[y]? = some t → vk_R t.1 t.2.1 t.2.2 (ad (1001 + y)) U) ∧ va_Z "java/lang/String" "COMPACT_STRINGS" "Z" (.int 1) A U H
def pS0 (sc : pS) (ad : Nat → Nat) (s : State) (A : Nat → Prop) : Prop := sc = none ∨ ∃ (xs : Nat → Int32) (L : Nat), sc = some (xs, L) ∧ va_X (ad 1000) L xs s s.heap ∧ ad 1000 < s.heap.size ∧ ¬ A (ad 1000)
def pSS (sc : pS) (ad : Nat → Nat) (s : State) (A : Nat → Prop) : Prop := pS0 sc ad s A ∧ pT ad A s s.heap
section PPUSH
variable {p : Program} {l : Launch} {e : Env} {R : Room} {s : State} {m : MethodId} {args : Array Value} {below : List Frame} {meth : Method} {c : Code} {H : Heap} {locs : List Loc} {cells slots : Nat} {Q : State → Prop}
variable {D : va_G} {E : Nat → ClassId} {A : Nat → Prop} {b : Nat} {ad : Nat → Nat} {ly : List (Nat × Nat)} {h : pH} {sc : pS} {d μ : Nat}
set_option maxHeartbeats 4000000 in
theorem px_get_ok {pc i x y z : Nat} {st st2 : List pv} {ls : Array Slot} (X : xe_X p R s m args meth c D E A b [] d μ) (hdg : decode (xm μ).2.1 pc = .ok (.getfield i, 3)) (hcw : xe_cw μ (.getfield i, 3, x, y, z) = true) (hP : va_P D xk_cl (pW ly E ad h) H) (hh : px_get ly h x y st = some st2)
    (kk : W p l e R s m args below meth c H locs cells slots Q (F0 m (pc + 3) ls (st2.map (pV ad)))) : W p l e R s m args below meth c H locs cells slots Q (F0 m pc ls (st.map (pV ad))) := by
  obtain ⟨⟨hx, hb, hml, hown, hret, hnm, hlk⟩, ⟨hts, hN, hAO, hK⟩, -, -⟩ := X
  unfold px_get at hh
  split at hh
  · next k r =>
    split at hh
    · next hk =>
      cases hh
      unfold xe_cw at hcw
      dsimp only at hcw
      split at hcw
      · next r0 hr0 =>
        rw [Bool.and_eq_true] at hcw
        obtain ⟨C, T, N⟩ := r0
        obtain ⟨u1, u2, u3, u4, u5⟩ := xu_w hr0
        have hlink := hts _ (xt_mem (of_decide_eq_true hcw.2))
        have hy : y < N := Nat.le_of_ble_eq_true hcw.1
        have hnf : pnf x = N := by unfold pnf; rw [hr0]
        have hv : ((List.range (pnf x)).map (fun y => pV ad (pF h x k y)))[y]? = some (pV ad (pF h x k y)) := by rw [List.getElem?_map, hnf, List.getElem?_range hy]; rfl
        exact va_get hx hb hts u1 hown hK hP k (pW_at hk) hr0 y hy hlink (fun _ h9 => h9) hv hdg kk
      · cases hcw
    · cases hh
  · cases hh
set_option maxHeartbeats 4000000 in
theorem px_alen_ok {pc : Nat} {st st2 : List pv} {ls : Array Slot} (X : xe_X p R s m args meth c D E A b [] d μ) (hsc : pSS sc ad s A) (hdg : decode (xm μ).2.1 pc = .ok (.arraylength, 1)) (hP : va_P D xk_cl (pW ly E ad h) H) (hS : va_S A s.heap H locs) (hh : px_alen ly sc st = some st2)
    (kk : W p l e R s m args below meth c H locs cells slots Q (F0 m (pc + 1) ls (st2.map (pV ad)))) : W p l e R s m args below meth c H locs cells slots Q (F0 m pc ls (st.map (pV ad))) := by
  obtain ⟨⟨hx, hb, hml, hown, hret, hnm, hlk⟩, ⟨hts, hN, hAO, hK⟩, -, -⟩ := X
  unfold px_alen at hh
  split at hh
  · next k r =>
    split at hh
    · next e0 =>
      subst e0
      split at hh
      · next q =>
        cases hh
        rcases hsc.1 with e1 | ⟨xs, L, e1, hX, hbl, hbA⟩
        · cases e1
        · cases e1
          exact va_slen hx hb hX hbl hbA hS hdg kk
      · cases hh
    · split at hh
      · next t ht =>
        split at hh
        · next g =>
          cases hh
          obtain ⟨tk, tn⟩ := t
          have hat := pW_at (E := E) (ad := ad) (h := h) ht
          dsimp only at g
          rcases (by omega : tk = 1 ∨ tk = 2 ∨ tk = 3 ∨ tk = 4) with rfl | rfl | rfl | rfl
          · exact va_alen hx hb hK hP k 0 hat (ty := .int) rfl rfl hdg kk
          · exact va_alen hx hb hK hP k 1 hat (ty := .byte) rfl rfl hdg kk
          · exact va_alen hx hb hK hP k 2 hat (ty := .long) rfl rfl hdg kk
          · exact va_alen hx hb hK hP k 3 hat (ty := .object "SlideNight$Slide") rfl rfl hdg kk
        · cases hh
      · cases hh
  · cases hh
set_option maxHeartbeats 4000000 in
theorem px_iald_ok {pc : Nat} {st st2 : List pv} {ls : Array Slot} (X : xe_X p R s m args meth c D E A b [] d μ) (hsc : pSS sc ad s A) (hdg : decode (xm μ).2.1 pc = .ok (.iaload, 1)) (hP : va_P D xk_cl (pW ly E ad h) H) (hS : va_S A s.heap H locs) (hh : px_iald ly sc h st = some st2)
    (kk : W p l e R s m args below meth c H locs cells slots Q (F0 m (pc + 1) ls (st2.map (pV ad)))) : W p l e R s m args below meth c H locs cells slots Q (F0 m pc ls (st.map (pV ad))) := by
  obtain ⟨⟨hx, hb, hml, hown, hret, hnm, hlk⟩, ⟨hts, hN, hAO, hK⟩, -, -⟩ := X
  unfold px_iald at hh
  split at hh
  · next i k r =>
    split at hh
    · next e0 =>
      subst e0
      split at hh
      · next q =>
        split at hh
        · cases hh
        · next hin =>
          cases hh
          rcases hsc.1 with e1 | ⟨xs, L, e1, hX, hbl, hbA⟩
          · cases e1
          · cases e1
            exact va_sld hx hb hX hbl hbA hS hin hdg kk
      · cases hh
    · split at hh
      · next t ht =>
        split at hh
        · next g =>
          split at hh
          · cases hh
          · next hin =>
            cases hh
            obtain ⟨tk, tn⟩ := t
            dsimp only at g
            subst g
            exact va_iald hx hb hK hP k 0 (pW_at ht) rfl hin hdg kk
        · cases hh
      · cases hh
  · cases hh
set_option maxHeartbeats 4000000 in
theorem px_bald_ok {pc : Nat} {st st2 : List pv} {ls : Array Slot} (X : xe_X p R s m args meth c D E A b [] d μ) (hdg : decode (xm μ).2.1 pc = .ok (.baload, 1)) (hP : va_P D xk_cl (pW ly E ad h) H) (hS : va_S A s.heap H locs) (hh : px_bald ly h st = some st2)
    (kk : W p l e R s m args below meth c H locs cells slots Q (F0 m (pc + 1) ls (st2.map (pV ad)))) : W p l e R s m args below meth c H locs cells slots Q (F0 m pc ls (st.map (pV ad))) := by
  obtain ⟨⟨hx, hb, hml, hown, hret, hnm, hlk⟩, ⟨hts, hN, hAO, hK⟩, -, -⟩ := X
  unfold px_bald at hh
  split at hh
  · next i k r =>
    split at hh
    · next t ht =>
      split at hh
      · next g =>
        split at hh
        · cases hh
        · next hin =>
          cases hh
          obtain ⟨tk, tn⟩ := t
          dsimp only at g
          subst g
          exact va_bald hx hb hK hP k 1 (pW_at ht) rfl hin hdg kk
      · cases hh
    · cases hh
  · cases hh
set_option maxHeartbeats 4000000 in
theorem px_lald_ok {pc : Nat} {st st2 : List pv} {ls : Array Slot} (X : xe_X p R s m args meth c D E A b [] d μ) (hdg : decode (xm μ).2.1 pc = .ok (.laload, 1)) (hP : va_P D xk_cl (pW ly E ad h) H) (hS : va_S A s.heap H locs) (hh : px_lald ly h st = some st2)
    (kk : W p l e R s m args below meth c H locs cells slots Q (F0 m (pc + 1) ls (st2.map (pV ad)))) : W p l e R s m args below meth c H locs cells slots Q (F0 m pc ls (st.map (pV ad))) := by
  obtain ⟨⟨hx, hb, hml, hown, hret, hnm, hlk⟩, ⟨hts, hN, hAO, hK⟩, -, -⟩ := X
  unfold px_lald at hh
  split at hh
  · next i k r =>
    split at hh
    · next t ht =>
      split at hh
      · next g =>
        split at hh
        · cases hh
        · next hin =>
          cases hh
          obtain ⟨tk, tn⟩ := t
          dsimp only at g
          subst g
          exact va_lald hx hb hK hP k 2 (pW_at ht) rfl hin hdg kk
      · cases hh
    · cases hh
  · cases hh
set_option maxHeartbeats 4000000 in
theorem px_aald_ok {pc : Nat} {st st2 : List pv} {ls : Array Slot} (X : xe_X p R s m args meth c D E A b [] d μ) (hdg : decode (xm μ).2.1 pc = .ok (.aaload, 1)) (hP : va_P D xk_cl (pW ly E ad h) H) (hS : va_S A s.heap H locs) (hh : px_aald ly h st = some st2)
    (kk : W p l e R s m args below meth c H locs cells slots Q (F0 m (pc + 1) ls (st2.map (pV ad)))) : W p l e R s m args below meth c H locs cells slots Q (F0 m pc ls (st.map (pV ad))) := by
  obtain ⟨⟨hx, hb, hml, hown, hret, hnm, hlk⟩, ⟨hts, hN, hAO, hK⟩, -, -⟩ := X
  unfold px_aald at hh
  split at hh
  · next i k r =>
    split at hh
    · next t ht =>
      split at hh
      · next g =>
        split at hh
        · cases hh
        · next hin =>
          cases hh
          obtain ⟨tk, tn⟩ := t
          dsimp only at g
          subst g
          refine va_aldq hx hb hK hP k 3 (C := "SlideNight$Slide") (pW_at ht) rfl hin hdg ?_
          rw [List.map_cons, pV_rf] at kk
          exact kk
      · cases hh
    · cases hh
  · cases hh
set_option maxHeartbeats 8000000 in
theorem px_push_ok {pc : Nat} {q : xe_I} {lv : List (Nat × pv)} {st st2 : List pv} {ls : Array Slot} (X : xe_X p R s m args meth c D E A b [] d μ) (hsc : pSS sc ad s A) (hk : xe_chk μ q pc = true) (hP : va_P D xk_cl (pW ly E ad h) H) (hS : va_S A s.heap H locs) (hl : lv_has ls (xm μ).2.2.1 (pL ad lv)) (hcs : cells ≤ R.cells ∧ slots ≤ R.slots)
    (hh : px_push ly d sc q.1 q.2.2.1 q.2.2.2.1 lv st h = some st2)
    (kk : W p l e R s m args below meth c H locs cells slots Q (F0 m (pc + q.2.1) ls (st2.map (pV ad)))) : W p l e R s m args below meth c H locs cells slots Q (F0 m pc ls (st.map (pV ad))) := by
  obtain ⟨I, len, x, y, z⟩ := q
  unfold xe_chk at hk
  dsimp only at hh kk hk
  rw [Bool.and_eq_true, Bool.and_eq_true] at hk
  obtain ⟨⟨hlen, hdg0⟩, hcw⟩ := hk
  have hdg := of_decide_eq_true hdg0
  clear hdg0
  obtain ⟨⟨hx, hb, hml, hown, hret, hnm, hlk⟩, ⟨hts, hN, hAO, hK⟩, ⟨hA, hd1, hd2, hd3, hd4⟩, -⟩ := id X
  unfold px_push px_pf at hh
  split at hh <;> (try dsimp only at hh)
  · have hlen : len = 1 := xe_l1 hlen rfl (by decide)
    subst hlen
    cases hh
    exact lv_iconst hx hb hdg rfl kk
  · have hlen : len = 2 := xe_l1 hlen rfl (by decide)
    subst hlen
    cases hh
    exact lv_bipush hx hb hdg rfl kk
  · have hlen : len = 3 := xe_l1 hlen rfl (by decide)
    subst hlen
    cases hh
    exact lv_sipush hx hb hdg rfl kk
  · have hlen : len = 1 := xe_l1 hlen rfl (by decide)
    subst hlen
    cases hh
    exact lv_lconst hx hb hdg rfl kk
  · have hlen : len = 2 := xe_l1 hlen rfl (by decide)
    subst hlen
    split at hh
    · next e0 =>
      cases hh
      subst e0
      unfold xe_cw at hcw
      dsimp only at hcw
      rw [if_neg (by decide), Bool.and_eq_true] at hcw
      exact lv_ldc hx hb hown (hts _ (xt_mem (of_decide_eq_true hcw.2))) hdg kk
    · split at hh
      · next e1 =>
        obtain ⟨e1, e2⟩ := e1
        cases hh
        subst e1
        unfold xe_cw at hcw
        dsimp only at hcw
        rw [if_pos (by decide)] at hcw
        have hc := of_decide_eq_true hcw
        cases ht : xs_T[y]? with
        | none =>
          rw [ht] at hc
          cases hc
        | some t =>
          rw [ht] at hc
          have hc := Option.some.inj hc
          have hc1 := congrArg Prod.fst hc
          have hc2 := congrArg Prod.snd hc
          dsimp only at hc1 hc2
          subst hc2
          exact va_ldcS hx hb hown (hc1 ▸ hsc.2.2.1 y t ht) hdg kk
      · cases hh
  · have hlen : len = 3 := xe_l1 hlen rfl (by decide)
    subst hlen
    split at hh
    · next e0 =>
      cases hh
      subst e0
      unfold xe_cw at hcw
      dsimp only at hcw
      rw [if_neg (by decide), Bool.and_eq_true] at hcw
      exact lv_ldcw hx hb hown (hts _ (xt_mem (of_decide_eq_true hcw.2))) hdg kk
    · cases hh
  · have hlen : len = 3 := xe_l1 hlen rfl (by decide)
    subst hlen
    cases hh
    unfold xe_cw at hcw
    dsimp only at hcw
    rw [Bool.and_eq_true] at hcw
    exact lv_ldc2 hx hb hown (hts _ (xt_mem (of_decide_eq_true hcw.2))) hdg kk
  · have hlen : len = 1 := xe_l1 hlen rfl (by decide)
    subst hlen
    cases hh
    exact lv_null hx hb hdg kk
  · have hlen : len = 2 := xe_l1 hlen rfl (by decide)
    subst hlen
    unfold px_ldi at hh
    split at hh
    · next x0 hx0 =>
      cases hh
      obtain ⟨k, hk⟩ := px_lg_ok (ad := ad) hx0
      exact lv_iload hx hb hdg (lv_at hl k hk) kk
    · cases hh
  · have hlen : len = 1 := xe_l1 hlen rfl (by decide)
    subst hlen
    unfold px_ldi at hh
    split at hh
    · next x0 hx0 =>
      cases hh
      obtain ⟨k, hk⟩ := px_lg_ok (ad := ad) hx0
      exact lv_iload_n hx hb hdg rfl (lv_at hl k hk) kk
    · cases hh
  · have hlen : len = 2 := xe_l1 hlen rfl (by decide)
    subst hlen
    unfold px_ldl at hh
    split at hh
    · next x0 hx0 =>
      cases hh
      obtain ⟨k, hk⟩ := px_lg_ok (ad := ad) hx0
      exact lv_lload hx hb hdg (lv_at hl k hk) kk
    · cases hh
  · have hlen : len = 1 := xe_l1 hlen rfl (by decide)
    subst hlen
    unfold px_ldl at hh
    split at hh
    · next x0 hx0 =>
      cases hh
      obtain ⟨k, hk⟩ := px_lg_ok (ad := ad) hx0
      exact lv_lload_n hx hb hdg rfl (lv_at hl k hk) kk
    · cases hh
  · have hlen : len = 2 := xe_l1 hlen rfl (by decide)
    subst hlen
    unfold px_lda at hh
    split at hh
    · next x0 hx0 =>
      cases hh
      obtain ⟨k, hk⟩ := px_lg_ok (ad := ad) hx0
      cases x0 with
      | none => exact lv_aloadN hx hb hdg (lv_at hl k hk) kk
      | some k0 => exact lv_aload hx hb hdg (lv_at hl k hk) kk
    · cases hh
  · have hlen : len = 1 := xe_l1 hlen rfl (by decide)
    subst hlen
    unfold px_lda at hh
    split at hh
    · next x0 hx0 =>
      cases hh
      obtain ⟨k, hk⟩ := px_lg_ok (ad := ad) hx0
      cases x0 with
      | none => exact lv_aload_nN hx hb hdg rfl (lv_at hl k hk) kk
      | some k0 => exact lv_aload_n hx hb hdg rfl (lv_at hl k hk) kk
    · cases hh
  · have hlen : len = 1 := xe_l1 hlen rfl (by decide)
    subst hlen
    unfold px_u2 at hh
    split at hh
    · cases hh
      exact lv_iadd hx hb hdg kk
    · cases hh
  · have hlen : len = 1 := xe_l1 hlen rfl (by decide)
    subst hlen
    unfold px_u2 at hh
    split at hh
    · cases hh
      exact lv_isub hx hb hdg kk
    · cases hh
  · have hlen : len = 1 := xe_l1 hlen rfl (by decide)
    subst hlen
    unfold px_u2 at hh
    split at hh
    · cases hh
      exact lv_imul hx hb hdg kk
    · cases hh
  · have hlen : len = 1 := xe_l1 hlen rfl (by decide)
    subst hlen
    unfold px_d2 at hh
    split at hh
    · split at hh
      · cases hh
      · next hne =>
        cases hh
        exact lv_idiv hx hb hdg hne kk
    · cases hh
  · have hlen : len = 1 := xe_l1 hlen rfl (by decide)
    subst hlen
    unfold px_d2 at hh
    split at hh
    · split at hh
      · cases hh
      · next hne =>
        cases hh
        exact lv_irem hx hb hdg hne kk
    · cases hh
  · have hlen : len = 1 := xe_l1 hlen rfl (by decide)
    subst hlen
    unfold px_u1 at hh
    split at hh
    · cases hh
      exact lv_ineg hx hb hdg kk
    · cases hh
  · have hlen : len = 1 := xe_l1 hlen rfl (by decide)
    subst hlen
    unfold px_u2 at hh
    split at hh
    · cases hh
      exact lv_iand hx hb hdg kk
    · cases hh
  · have hlen : len = 1 := xe_l1 hlen rfl (by decide)
    subst hlen
    unfold px_u2 at hh
    split at hh
    · cases hh
      exact lv_ior hx hb hdg kk
    · cases hh
  · have hlen : len = 1 := xe_l1 hlen rfl (by decide)
    subst hlen
    unfold px_u2 at hh
    split at hh
    · cases hh
      exact lv_ixor hx hb hdg kk
    · cases hh
  · have hlen : len = 1 := xe_l1 hlen rfl (by decide)
    subst hlen
    unfold px_u2 at hh
    split at hh
    · cases hh
      exact lv_ishl hx hb hdg kk
    · cases hh
  · have hlen : len = 1 := xe_l1 hlen rfl (by decide)
    subst hlen
    unfold px_u2 at hh
    split at hh
    · cases hh
      exact lv_ishr hx hb hdg kk
    · cases hh
  · have hlen : len = 1 := xe_l1 hlen rfl (by decide)
    subst hlen
    unfold px_u2 at hh
    split at hh
    · cases hh
      exact lv_iushr hx hb hdg rfl kk
    · cases hh
  · have hlen : len = 1 := xe_l1 hlen rfl (by decide)
    subst hlen
    unfold px_m2 at hh
    split at hh
    · cases hh
      exact lv_ladd hx hb hdg kk
    · cases hh
  · have hlen : len = 1 := xe_l1 hlen rfl (by decide)
    subst hlen
    unfold px_m2 at hh
    split at hh
    · cases hh
      exact lv_lsub hx hb hdg kk
    · cases hh
  · have hlen : len = 1 := xe_l1 hlen rfl (by decide)
    subst hlen
    unfold px_m2 at hh
    split at hh
    · cases hh
      exact lv_lmul hx hb hdg kk
    · cases hh
  · have hlen : len = 1 := xe_l1 hlen rfl (by decide)
    subst hlen
    unfold px_e2 at hh
    split at hh
    · split at hh
      · cases hh
      · next hne =>
        cases hh
        exact lv_ldiv hx hb hdg hne kk
    · cases hh
  · have hlen : len = 1 := xe_l1 hlen rfl (by decide)
    subst hlen
    unfold px_e2 at hh
    split at hh
    · split at hh
      · cases hh
      · next hne =>
        cases hh
        exact lv_lrem hx hb hdg hne kk
    · cases hh
  · have hlen : len = 1 := xe_l1 hlen rfl (by decide)
    subst hlen
    unfold px_m1 at hh
    split at hh
    · cases hh
      exact lv_lneg hx hb hdg kk
    · cases hh
  · have hlen : len = 1 := xe_l1 hlen rfl (by decide)
    subst hlen
    unfold px_lli at hh
    split at hh
    · cases hh
      exact W.lcmp hx hb hdg kk
    · cases hh
  · have hlen : len = 1 := xe_l1 hlen rfl (by decide)
    subst hlen
    unfold px_il at hh
    split at hh
    · cases hh
      exact lv_i2l hx hb hdg rfl kk
    · cases hh
  · have hlen : len = 1 := xe_l1 hlen rfl (by decide)
    subst hlen
    unfold px_li at hh
    split at hh
    · cases hh
      exact lv_l2i hx hb hdg rfl kk
    · cases hh
  · have hlen : len = 1 := xe_l1 hlen rfl (by decide)
    subst hlen
    unfold px_u1 at hh
    split at hh
    · cases hh
      exact lv_i2b hx hb hdg rfl kk
    · cases hh
  · have hlen : len = 1 := xe_l1 hlen rfl (by decide)
    subst hlen
    unfold px_u1 at hh
    split at hh
    · cases hh
      exact lv_i2c hx hb hdg rfl kk
    · cases hh
  · have hlen : len = 1 := xe_l1 hlen rfl (by decide)
    subst hlen
    split at hh
    · next a r =>
      split at hh
      · cases hh
      · next t =>
        cases hh
        exact lv_dup hx hb hdg (by rw [pV_cat, if_neg t]) kk
    · cases hh
  · have hlen : len = 1 := xe_l1 hlen rfl (by decide)
    subst hlen
    split at hh
    · next a b2 r =>
      split at hh
      · cases hh
      · next t =>
        cases hh
        rw [Bool.or_eq_true, not_or] at t
        exact lv_dup2_11 hx hb hdg (by rw [pV_cat, if_neg t.1]) (by rw [pV_cat, if_neg t.2]) kk
    · cases hh
  · have hlen : len = 1 := xe_l1 hlen rfl (by decide)
    subst hlen
    split at hh
    · next a r =>
      split at hh
      · cases hh
      · next t =>
        cases hh
        exact lv_pop hx hb hdg (by rw [pV_cat, if_neg t]) kk
    · cases hh
  · have hlen : len = 1 := xe_l1 hlen rfl (by decide)
    subst hlen
    split at hh
    · next a r =>
      split at hh
      · next t =>
        cases hh
        exact lv_pop2_2 hx hb hdg (by rw [pV_cat, if_pos t]) kk
      · cases hh
    · cases hh
  · have hlen : len = 3 := xe_l1 hlen rfl (by decide)
    subst hlen
    exact px_get_ok X hdg hcw hP hh kk
  · have hlen : len = 1 := xe_l1 hlen rfl (by decide)
    subst hlen
    exact px_alen_ok X hsc hdg hP hS hh kk
  · have hlen : len = 1 := xe_l1 hlen rfl (by decide)
    subst hlen
    exact px_iald_ok X hsc hdg hP hS hh kk
  · have hlen : len = 1 := xe_l1 hlen rfl (by decide)
    subst hlen
    exact px_bald_ok X hdg hP hS hh kk
  · have hlen : len = 1 := xe_l1 hlen rfl (by decide)
    subst hlen
    exact px_lald_ok X hdg hP hS hh kk
  · have hlen : len = 1 := xe_l1 hlen rfl (by decide)
    subst hlen
    exact px_aald_ok X hdg hP hS hh kk
  · have hlen : len = 3 := xe_l1 hlen rfl (by decide)
    subst hlen
    split at hh
    · next t =>
      have hs8 := px_sum_ok ad st
      have hs8 : ((st.map (pV ad)).map fun v => v.category).sum ≤ 8 := by rw [hs8]; exact t.2
      unfold xe_cw at hcw
      dsimp only at hcw
      have hml2 : c.maxLocals = ls.size := hml.trans hl.1.symm
      split at hh
      · next e0 =>
        subst e0
        have hlink := hts _ (xt_mem (of_decide_eq_true hcw))
        unfold px_u2 at hh
        split at hh
        · cases hh
          refine va_mmax hx hb hml2 hown hlink (hts _ xw_max.1) (hts _ xw_math.1) (hts _ xw_max.2) (by omega) ?_ hcs.1 hcs.2 hdg kk
          rw [List.map_cons, List.map_cons, List.map_cons, List.sum_cons, List.map_cons, List.sum_cons] at hs8
          omega
        · cases hh
      · split at hh
        · next e0 =>
          subst e0
          have hlink := hts _ (xt_mem (of_decide_eq_true hcw))
          unfold px_u2 at hh
          split at hh
          · cases hh
            refine va_mmin hx hb hml2 hown hlink (hts _ xw_min.1) (hts _ xw_math.1) (hts _ xw_min.2) (by omega) ?_ hcs.1 hcs.2 hdg kk
            rw [List.map_cons, List.map_cons, List.map_cons, List.sum_cons, List.map_cons, List.sum_cons] at hs8
            omega
          · cases hh
        · split at hh
          · next e0 =>
            subst e0
            have hlink := hts _ (xt_mem (of_decide_eq_true hcw))
            unfold px_m1 at hh
            split at hh
            · cases hh
              refine va_mabs_long hx hb hml2 hown hlink (hts _ xw_abs.1) (hts _ xw_math.1) (hts _ xw_abs.2) (by omega) ?_ hcs.1 hcs.2 hdg kk
              rw [List.map_cons, List.map_cons, List.sum_cons] at hs8
              omega
            · cases hh
          · cases hh
    · cases hh
  · cases hh
end PPUSH
