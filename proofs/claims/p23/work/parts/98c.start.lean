/-! the start, to the first look at the script; then the plain machine -/
theorem xl_k0 : xe_look (xc 276) 0 = some (.new 7, 3, 11, 0, 1288) := by decide +kernel
theorem xl_k3 : xe_look (xc 276) 3 = some (.dup, 1, 0, 0, 0) := by decide +kernel
theorem xl_k4 : xe_look (xc 276) 4 = some (.invokespecial 9, 3, 0, 123, 1289) := by decide +kernel
theorem xl_k7 : xe_look (xc 276) 7 = some (.astore_n 1, 1, 0, 0, 0) := by decide +kernel
theorem xl_k8 : xe_look (xc 276) 8 = some (.new 10, 3, 12, 0, 1290) := by decide +kernel
theorem xl_k11 : xe_look (xc 276) 11 = some (.dup, 1, 0, 0, 0) := by decide +kernel
theorem xl_k12 : xe_look (xc 276) 12 = some (.invokespecial 12, 3, 0, 201, 1291) := by decide +kernel
theorem xl_k15 : xe_look (xc 276) 15 = some (.astore_n 2, 1, 0, 0, 0) := by decide +kernel
theorem xl_k16 : xe_look (xc 276) 16 = some (.iconst 0, 1, 0, 0, 0) := by decide +kernel
theorem xl_k17 : xe_look (xc 276) 17 = some (.istore_n 3, 1, 0, 0, 0) := by decide +kernel
theorem xl_start {b : Nat} {s : State} (hts : ∀ w ∈ lw_tbl, w.before #[Value.ref b] s = true) : ∃ (D : va_G) (E : Nat → ClassId), va_K D xk_cl (xe_tys E) s := by
  have ht : ∀ w ∈ xe_T, w.before #[Value.ref b] s = true := fun w hw => hts w (xe_T_in w hw)
  have h : ∀ k : Nat, ∃ (cC : ClassId) (iS : Nat → Nat), ∀ q, xk_cl[k]? = some q → u_Kn s q.1 q.2.1 q.2.2 cC iS := by
    intro k
    cases hq : xk_cl[k]? with
    | none => exact ⟨0, fun _ => 0, fun q h => by cases h⟩
    | some q =>
      obtain ⟨u1, -, u3, -, -⟩ := xu_w hq
      obtain ⟨cC, iS, hk⟩ := u_known ht u1 (ht _ u3)
      exact ⟨cC, iS, fun q2 h => by cases h; exact hk⟩
  obtain ⟨f, hf⟩ := Classical.axiomOfChoice h
  obtain ⟨g, hg⟩ := Classical.axiomOfChoice hf
  obtain ⟨cI, kI, pI, i1, i2, i3⟩ := Cond.arrayClass_spec (ht _ xw_arr.1)
  obtain ⟨cB, kB, pB, b1, b2, b3⟩ := Cond.arrayClass_spec (ht _ xw_arr.2.1)
  obtain ⟨cJ, kJ, pJ, j1, j2, j3⟩ := Cond.arrayClass_spec (ht _ xw_arr.2.2)
  obtain ⟨pO, cO, kO, o1, o2, o3, o4, o5⟩ := Cond.arrayOver_spec (hts _ xe_AO)
  refine ⟨(f, g), fun k => if k = 0 then cI else if k = 1 then cB else if k = 2 then cJ else cO, fun k q hq => hg k q hq, ?_⟩
  intro k q hq
  match k, hq with
  | 0, hq => cases hq; exact ⟨fun n z => ⟨(fun k h => by cases h), kI, i2, pI, i3⟩, i1⟩
  | 1, hq => cases hq; exact ⟨fun n z => ⟨(fun k h => by cases h), kB, b2, pB, b3⟩, b1⟩
  | 2, hq => cases hq; exact ⟨fun n z => ⟨(fun k h => by cases h), kJ, j2, pJ, j3⟩, j1⟩
  | 3, hq => cases hq; exact ⟨fun n z => ⟨(fun k h => by cases h), kO, o3, pO, o4⟩, kO, pO, o3, o4, o1, o5⟩
  | k + 4, hq => simp [xe_tys] at hq
def xl_A (s : State) : Nat → Prop := fun q => s.heap.size ≤ q
theorem xl_X {p : Program} {s : State} {m : MethodId} {meth : Method} {c : Code} {b L : Nat} {xs : Nat → Int32} {D : va_G} {E : Nat → ClassId} {d : Nat} (hd : d ≤ 1000) (C0 : lw_At p s m meth c b L xs) (hK : va_K D xk_cl (xe_tys E) s) : xe_X p room_1 s m #[Value.ref b] meth c D E (xl_A s) b [] d 276 := by
  obtain ⟨hx, hb, hr, hml, hown, hts, hX, hbl, hlocks, hgv⟩ := C0
  refine ⟨⟨hx, hb, hml, hown, hr, fun h => absurd h (by decide +kernel), hlocks⟩, ⟨fun w hw => hts w (xe_T_in w hw), fun w hw => ?_, hts _ xe_AO, hK⟩, ⟨fun q h => h, by show d ≤ 2048; omega, by show 64 * d ≤ 84000; omega, Nat.le_of_ble_eq_true rfl, Nat.le_of_ble_eq_true rfl⟩, Or.inl rfl⟩
  have : ∀ w ∈ xe_N, w.onTables = true := by decide +kernel
  exact va_Nw.of (this w hw) (hts w (xe_N_in w hw))
def xl_lv : List (Nat × xe_v) := [(3, (0, 2147483648, 2147483648)), (2, (3, 196, 0)), (1, (3, 0, 0)), (0, (4, 0, 0))]
set_option maxHeartbeats 8000000 in
theorem pz_run {p : Program} {l : Launch} {e : Env} {s : State} {m : MethodId} {below : List Frame} {meth : Method} {c : Code} {b L n c0 s0 : Nat} {xs : Nat → Int32} {D : va_G} {E : Nat → ClassId} {ad : Nat → Nat} {lv : List (Nat × pv)} {h : pH} {o : Option pv × pH} {H : Heap} {locs : List Loc} {ls : Array Slot} (C0 : lw_At p s m meth c b L xs) (hK : va_K D xk_cl (xe_tys E) s) (hT : pT ad (xl_A s) s s.heap) (had : ad 1000 = b) (hrun : px_run eL n 100 (some (xs, L)) 276 18 lv [] h = some o) (ho : o.1 = some (oI 1)) (hc0 : c0 ≤ 600000) (hs0 : s0 ≤ 7302250)
    (hP : va_P D xk_cl (pW eL E ad h) H) (hD : va_D (xl_A s) (pW eL E ad h)) (hS : va_S (xl_A s) s.heap H locs) (hl : lv_has ls 4 (pL ad lv)) : W p l e room_1 s m #[Value.ref b] below meth c H locs c0 s0 (lw_Z below #[Value.ref b] s) (F0 m 18 ls []) := by
  have X := xl_X (d := 100) (by decide) C0 hK
  obtain ⟨hx, hb, hr, hml, hown, hts, hX, hbl, hlocks, hgv⟩ := C0
  have hsc : pSS (some (xs, L)) ad s (xl_A s) := ⟨Or.inr ⟨xs, L, rfl, by rw [had]; exact hX, by rw [had]; exact hbl, by rw [had]; exact Nat.not_le.mpr hbl⟩, hT⟩
  refine px_run_ok eL l n hrun p e room_1 s m #[Value.ref b] below meth c (lw_Z below #[Value.ref b] s) D E (xl_A s) b c0 s0 ad X hsc ?_ ⟨hc0, hs0⟩ H locs ls hP hD hS hl
  intro pc q st h2 r H2 locs2 ls2 hk hret hO hP2 hD2 hS2
  subst hO
  dsimp only at ho
  subst ho
  obtain ⟨I, len, x, y2, z⟩ := q
  unfold xe_chk at hk
  dsimp only at hk hret
  rw [Bool.and_eq_true, Bool.and_eq_true] at hk
  obtain ⟨⟨hlen, hdg0⟩, hcw⟩ := hk
  have hdg := of_decide_eq_true hdg0
  clear hdg0
  refine va_forget hS2.2.2 (W.widen (k := 600000) (n := 7302250) (by omega) (by omega) ?_)
  unfold px_ret at hret
  split at hret
  · next x0 =>
    have hlen : len = 1 := xe_l1 hlen rfl (by decide)
    subst hlen
    have e1 : x0 = Int32.ofInt 1 := by
      split at hret
      · cases hret
        rfl
      · split at hret
        · cases hret
          rfl
        · cases hret
      · cases hret
    subst e1
    exact lw_ret hx hb hr hlocks hdg
  · next x0 =>
    split at hret <;> cases hret
  · next x0 =>
    split at hret <;> cases hret
  · split at hret <;> cases hret
  · cases hret
theorem z_pq : ∀ r, r < 254 → z_pv.getD r 0 < 254 ∧ z_pi.getD (z_pv.getD r 0) 0 = r := by decide +kernel
theorem xs_2l : xs_2.1 = 254 := by decide +kernel
set_option maxHeartbeats 8000000 in
set_option maxRecDepth 20000 in
theorem whole_start {p : Program} {e : Env} {s : State} {m : MethodId} {below : List Frame} {meth : Method} {c : Code} (l : Launch) (hflags : l.flags = flags0) {b L : Nat} {xs : Nat → Int32} (hL : L ≤ 3072) (C0 : lw_At p s m meth c b L xs) : W p l e room_1 s m #[Value.ref b] below meth c s.heap [] 0 0 (lw_Z below #[Value.ref b] s) (entryFrame m ([Value.ref b] : List Value).toArray 4) := by
  obtain ⟨hx, hb, hr, hml, hown, hts, hX, hbl, hlocks, hgv⟩ := id C0
  obtain ⟨D, E, hK⟩ := xl_start hts
  have X : xe_X p room_1 s m #[Value.ref b] meth c D E (xl_A s) b [] 30 276 := xl_X (by decide) C0 hK
  have hbA : ¬ xl_A s b := Nat.not_le.mpr hbl
  have hl := lv_entry ([.ref b]) (n := 4) (Nat.le_of_ble_eq_true rfl)
  rw [lg_entry_eq]
  generalize (lg_sl ([.ref b]) ++ List.replicate (4 - (lg_sl ([.ref b])).length) Slot.unset).toArray = ls at hl ⊢
  have hl : lv_has ls (xm 276).2.2.1 [(0, .ref b)] := hl
  have hp : xe_p b [] [(0, (4, 0, 0))] [(0, .ref b)] := ⟨⟨rfl, rfl⟩, trivial⟩
  have hP : va_P D xk_cl [] s.heap := fun k q h => by simp at h
  have hD : va_D (xl_A s) [] := ⟨fun i j p q h => by simp at h, fun k q h => by simp at h⟩
  have hS : va_S (xl_A s) s.heap s.heap [] := va_S.rf
  have hR : xe_R E b [] xh_0 [] := ⟨rfl, rfl, Nat.zero_le _, fun k c h => absurd (xh_lt h).1 (Nat.not_lt_zero k)⟩
  refine xe_al_ok (w := ([(3, 0, 0)], xh_p xh_0 (0, 11, xe_df 11 13, (2, 0, 0), []), 13)) X (xe_ck xl_k0) hR hP hD hS (st := []) trivial (by rfl) (Nat.le_of_ble_eq_true rfl) (Nat.le_of_ble_eq_true rfl) (fun H1 ws1 as1 st1 b1 hR1 hP1 hD1 hS1 hw1 => ?_)
  have hp1 := xe_p_m b1 hp
  refine xe_push_ok (st2 := [(3, 0, 0), (3, 0, 0)]) X (xe_ck xl_k3) hR1 hP1 hS1 hl hp1 hw1 ⟨Nat.le_of_ble_eq_true rfl, Nat.le_of_ble_eq_true rfl⟩ rfl (fun st2 hw2 => ?_)
  refine xe_cal_ok (ar := ([(3, 0, 0)], [(3, 0, 0)])) (outs := [(none, xs_1)]) X (xe_ck xl_k4) hR1 hP1 hD1 hS1 hl.1 hw2 (by decide +kernel) (by decide) (by decide +kernel) (xe_met l (by decide) (by decide +kernel) xs_r1) (Nat.le_of_ble_eq_true rfl) (Nat.le_of_ble_eq_true rfl) (fun o ho v as2 ws2 H2 locs2 rest c1 b2 hR2 hP2 hD2 hS2 hw3 => ?_)
  have eo := List.mem_singleton.mp ho
  subst eo
  have ev : v.toList = [] := xe_w_nil c1
  rw [ev, List.nil_append]
  have hw3 := xe_w_m b2 hw3
  have hp2 := xe_p_m b2 hp1
  refine xe_sto_ok (w := ([(1, (3, 0, 0)), (0, (4, 0, 0))], [])) X (xe_ck xl_k7) hl hp2 hw3 (by decide +kernel) (fun lc3 ls3 st4 hl3 hp3 hw4 => ?_)
  refine xe_al_ok (w := ([(3, 196, 0)], xh_p xs_1 (0, 12, xe_df 12 90, (2, 0, 0), []), 90)) X (xe_ck xl_k8) hR2 hP2 hD2 hS2 hw4 (by rfl) (Nat.le_of_ble_eq_true rfl) (Nat.le_of_ble_eq_true rfl) (fun H3 ws3 as3 st5 b3 hR3 hP3 hD3 hS3 hw5 => ?_)
  have hp4 := xe_p_m b3 hp3
  refine xe_push_ok (st2 := [(3, 196, 0), (3, 196, 0)]) X (xe_ck xl_k11) hR3 hP3 hS3 hl3 hp4 hw5 ⟨Nat.le_of_ble_eq_true rfl, Nat.le_of_ble_eq_true rfl⟩ rfl (fun st6 hw6 => ?_)
  refine xe_cal_ok (ar := ([(3, 196, 0)], [(3, 196, 0)])) (outs := [(none, xs_2)]) X (xe_ck xl_k12) hR3 hP3 hD3 hS3 hl3.1 hw6 (by decide +kernel) (by decide) (by decide +kernel) (xe_met l (by decide) (by decide +kernel) xs_r2) (Nat.le_of_ble_eq_true rfl) (Nat.le_of_ble_eq_true rfl) (fun o ho v as4 ws4 H4 locs4 rest2 c2 b4 hR4 hP4 hD4 hS4 hw7 => ?_)
  have eo := List.mem_singleton.mp ho
  subst eo
  have ev : v.toList = [] := xe_w_nil c2
  rw [ev, List.nil_append]
  have hw7 := xe_w_m b4 hw7
  have hp5 := xe_p_m b4 hp4
  refine xe_sto_ok (w := ([(2, (3, 196, 0)), (1, (3, 0, 0)), (0, (4, 0, 0))], [])) X (xe_ck xl_k15) hl3 hp5 hw7 (by decide +kernel) (fun lc6 ls6 st8 hl6 hp6 hw8 => ?_)
  refine xe_push_ok (st2 := [(0, 2147483648, 2147483648)]) X (xe_ck xl_k16) hR4 hP4 hS4 hl6 hp6 hw8 ⟨Nat.le_of_ble_eq_true rfl, Nat.le_of_ble_eq_true rfl⟩ (by decide +kernel) (fun st9 hw9 => ?_)
  refine xe_sto_ok (w := (xl_lv, [])) X (xe_ck xl_k17) hl6 hp6 hw9 (by decide +kernel) (fun lc7 ls7 st10 hl7 hp7 hw10 => ?_)
  have e10 := xe_w_nil hw10
  subst e10
  have hl7 : lv_has ls7 4 lc7 := hl7
  obtain ⟨v3, n3, hn3, g3, hp8⟩ := xe_p_cons hp7
  obtain ⟨v2, n2, hn2, g2, hp9⟩ := xe_p_cons hp8
  obtain ⟨v1, n1, hn1, g1, hp10⟩ := xe_p_cons hp9
  obtain ⟨v0, n0, hn0, g0, hp11⟩ := xe_p_cons hp10
  obtain ⟨x3, rfl, q1, q2⟩ := xe_g0 (by rfl) g3
  have e0 := xe_g4 (by rfl) g0
  subst e0
  have e3 : x3 = nI 0 := xe_nI (by dsimp only at q1 q2; omega)
  subst e3
  have k3 : lc7[0]? = some (3, .int (nI 0)) := by rw [hn3]; rfl
  have k0 : lc7[3]? = some (0, .ref b) := by rw [hn3, hn2, hn1, hn0]; rfl
  refine W.eq (g2 := F0 m 18 ls7 []) rfl ?_
  have hwl : ws4.length = 254 := by rw [hR4.2.1]; exact xs_2l
  have hal : as4.length = 254 := by rw [← hR4.1, List.length_map, hwl]
  obtain ⟨adK, htx⟩ := tx_ok (A := xl_A s) hts hgv (fun a ha => Nat.not_le.mpr ha)
  obtain ⟨ad, ad0, ad1, ad2⟩ : ∃ ad : Nat → Nat, (∀ r q, as4[r]? = some q → ad (z_pv.getD r 0) = q) ∧ ad 1000 = b ∧ ∀ i, i < 5 → ad (1001 + i) = adK i := by
    refine ⟨fun k => if k < 254 then as4.getD (z_pi.getD k 0) 0 else if k = 1000 then b else adK (k - 1001), fun r q hq => ?_, ?_, fun i hi => ?_⟩
    · have hr2 : r < 254 := by
        rw [← hal]
        exact (List.getElem?_eq_some_iff.mp hq).1
      dsimp only
      rw [if_pos (z_pq r hr2).1, (z_pq r hr2).2, List.getD_eq_getElem?_getD, hq]
      rfl
    · dsimp only
      rw [if_neg (by omega), if_pos rfl]
    · dsimp only
      rw [if_neg (by omega), if_neg (by omega), show 1001 + i - 1001 = i by omega]
  obtain ⟨q2, u2, w2⟩ := xe_g3 (by rfl) g2
  obtain ⟨q1', u1, w1⟩ := xe_g3 (by rfl) g1
  have a196 := ad0 _ _ u2
  have a0 := ad0 _ _ u1
  have p196 : z_pv.getD 196 0 = 196 := by decide +kernel
  have p0 : z_pv.getD 0 0 = 0 := by decide +kernel
  dsimp only at a196 a0
  rw [p196] at a196
  rw [p0] at a0
  obtain ⟨n, o, hrun, ho⟩ := lo_all (xs := xs) (L := L) hL (P := fun o => o.1 = some (oI 1)) (fun g => rfl) (L + 6) 0 (z_h ws4) [(3, .inl (nI 0)), (2, pvR 196), (1, pvR 0), (0, pvR 1000)] (by omega) (by omega) (z_I ad0 hR4) (z_xL hR4) (z_R9 hR4) rfl rfl rfl rfl
  have hlc : lc7 = pL ad [(3, .inl (nI 0)), (2, pvR 196), (1, pvR 0), (0, pvR 1000)] := by
    rw [hn3, hn2, hn1, hn0, w2, w1, xe_p_nil hp11]
    show _ = [(3, Value.int (nI 0)), (2, .ref (ad 196)), (1, .ref (ad 0)), (0, .ref (ad 1000))]
    rw [a196, a0, ad1]
  rw [hlc] at hl7
  exact pz_run C0 hK (htx ad ad2) ad1 hrun ho (Nat.le_of_ble_eq_true rfl) (Nat.le_of_ble_eq_true rfl) (z_P ad0 hR4 hP4) (z_D ad0 hR4 hD4) hS4 hl7
