/-! the law: what it starts from, its end, boxes of scripts -/
theorem xl_start {b : Nat} {s : State} (hts : ∀ w ∈ lw_tbl, w.before #[Value.ref b] s = true) : ∃ (D : va_G) (E : Nat → ClassId), va_K D xk_cl (xe_tys E) s := by
  have ht : ∀ w ∈ xe_T, w.before #[Value.ref b] s = true := fun w hw => hts w (xe_T_in w hw)
  have h : ∀ k : Nat, ∃ (cC : ClassId) (iS : Nat → Nat), ∀ q, xk_cl[k]? = some q → u_Kn s q.1 q.2.1 q.2.2 cC iS := by
    intro k
    cases hq : xk_cl[k]? with
    | none => exact ⟨0, fun _ => 0, fun q h => by cases h⟩
    | some q =>
      obtain ⟨u1, -, u3, -, -⟩ := xu_w hq
      obtain ⟨cC, iS, hk⟩ := u_known ht u1 (ht _ u3)
      exact ⟨cC, iS, fun q2 h => by cases h; exact hk⟩
  obtain ⟨f, hf⟩ := Classical.axiomOfChoice h
  obtain ⟨g, hg⟩ := Classical.axiomOfChoice hf
  obtain ⟨cI, kI, pI, i1, i2, i3⟩ := Cond.arrayClass_spec (ht _ xw_arr.1)
  obtain ⟨cB, kB, pB, b1, b2, b3⟩ := Cond.arrayClass_spec (ht _ xw_arr.2.1)
  obtain ⟨cJ, kJ, pJ, j1, j2, j3⟩ := Cond.arrayClass_spec (ht _ xw_arr.2.2)
  obtain ⟨pO, cO, kO, o1, o2, o3, o4, o5⟩ := Cond.arrayOver_spec (hts _ xe_AO)
  refine ⟨(f, g), fun k => if k = 0 then cI else if k = 1 then cB else if k = 2 then cJ else cO, fun k q hq => hg k q hq, ?_⟩
  intro k q hq
  match k, hq with
  | 0, hq => cases hq; exact ⟨fun n z => ⟨(fun k h => by cases h), kI, i2, pI, i3⟩, i1⟩
  | 1, hq => cases hq; exact ⟨fun n z => ⟨(fun k h => by cases h), kB, b2, pB, b3⟩, b1⟩
  | 2, hq => cases hq; exact ⟨fun n z => ⟨(fun k h => by cases h), kJ, j2, pJ, j3⟩, j1⟩
  | 3, hq => cases hq; exact ⟨fun n z => ⟨(fun k h => by cases h), kO, o3, pO, o4⟩, kO, pO, o3, o4, o1, o5⟩
  | k + 4, hq => simp [xe_tys] at hq
def xl_A (s : State) : Nat → Prop := fun q => s.heap.size ≤ q
theorem xl_X {p : Program} {s : State} {m : MethodId} {meth : Method} {c : Code} {b L : Nat} {xs : Nat → Int32} {D : va_G} {E : Nat → ClassId} {sc : List xe_v} (C0 : lw_At p s m meth c b L xs) (hK : va_K D xk_cl (xe_tys E) s) (hsc : xe_S b sc s (xl_A s)) : xe_X p room_1 s m #[Value.ref b] meth c D E (xl_A s) b sc 30 135 := by
  obtain ⟨hx, hb, hr, hml, hown, hts, hX, hbl, hlocks, hgv⟩ := C0
  refine ⟨⟨hx, hb, hml, hown, hr, fun h => absurd h (by decide +kernel), hlocks⟩, ⟨fun w hw => hts w (xe_T_in w hw), fun w hw => ?_, hts _ xe_AO, hK⟩, ⟨fun q h => h, Nat.le_of_ble_eq_true rfl, Nat.le_of_ble_eq_true rfl, Nat.zero_le _, Nat.zero_le _⟩, hsc⟩
  have : ∀ w ∈ xe_N, w.onTables = true := by decide +kernel
  exact va_Nw.of (this w hw) (hts w (xe_N_in w hw))
def xl_1 (r : Option xe_v) : Bool := match r with
  | some a => a.1 == 0 && a.2.1 == 2147483649 && a.2.2 == 2147483649
  | none => false
def xl_ok (r : Option (List xe_o)) : Bool := match r with
  | some os => os.all (fun o => xl_1 o.1)
  | none => false
set_option maxHeartbeats 8000000 in
/-- from a place of the law on: where the reckoner says that all ways end with 1 -/
theorem xl_run {p : Program} {l : Launch} {e : Env} {s : State} {m : MethodId} {below : List Frame} {meth : Method} {c : Code} {b L n pc c0 s0 : Nat} {xs : Nat → Int32} {D : va_G} {E : Nat → ClassId} {sc : List xe_v} {σ : xe_h} {lv : List (Nat × xe_v)} {lc : List (Nat × Value)} {as : List Nat} {ws : va_W} {H : Heap} {locs : List Loc} {ls : Array Slot} (C0 : lw_At p s m meth c b L xs) (hK : va_K D xk_cl (xe_tys E) s) (hsc : xe_S b sc s (xl_A s)) (h : xl_ok (xe_run n 30 sc 135 (xc 135) pc lv [] σ (0, 0)) = true) (hc0 : c0 ≤ 600000) (hs0 : s0 ≤ 7302250)
    (hR : xe_R E b as σ ws) (hP : va_P D xk_cl ws H) (hD : va_D (xl_A s) ws) (hS : va_S (xl_A s) s.heap H locs) (hl : lv_has ls 4 lc) (hp : xe_p b as lv lc) : W p l e room_1 s m #[Value.ref b] below meth c H locs c0 s0 (lw_Z below #[Value.ref b] s) (F0 m pc ls []) := by
  unfold xl_ok at h
  split at h
  · next os hos =>
    have X := xl_X C0 hK hsc
    obtain ⟨hx, hb, hr, hml, hown, hts, hX, hbl, hlocks, hgv⟩ := C0
    have hG := xe_run_ok l n hos p e room_1 s m #[Value.ref b] below meth c (lw_Z below #[Value.ref b] s) D E (xl_A s) b c0 s0 as os X ?_ ⟨by show c0 + 0 ≤ 600000; omega, by show s0 + 0 ≤ 7302250; omega⟩ ⟨Nat.zero_le _, Nat.zero_le _⟩ (fun _ h => h) H locs ls as ws lc [] hR hP hD hS hl hp trivial (xe_m_rf _)
    · exact hG
    · intro pc2 q st σ2 kc r H2 locs2 ls2 as2 ws2 stc hk hret h1 h2 hR2 hP2 hD2 hS2 hm2 hw2 hO
      have h3 := List.all_eq_true.mp h _ hO
      dsimp only at h3
      obtain ⟨I, len, x, y2, z⟩ := q
      unfold xe_chk at hk
      dsimp only at hk hret
      rw [Bool.and_eq_true, Bool.and_eq_true] at hk
      obtain ⟨⟨hlen, hdg0⟩, hcw⟩ := hk
      have hdg := of_decide_eq_true hdg0
      clear hdg0
      have k1 : kc.1 = 0 := Nat.le_zero.mp h1
      have k2 : kc.2 = 0 := Nat.le_zero.mp h2
      rw [k1, k2]
      refine va_forget hS2.2.2 (W.widen (k := 600000) (n := 7302250) (by omega) (by omega) ?_)
      unfold xl_1 at h3
      split at h3
      · next a =>
        unfold xe_ret at hret
        split at hret
        · next a2 =>
          have hlen : len = 1 := xe_l1 hlen rfl (by decide)
          subst hlen
          split at hret
          · next t =>
            cases hret
            obtain ⟨v, m0, rfl, hg, hm0⟩ := xe_w_cons hw2
            have em := xe_w_nil hm0
            subst em
            simp only [Bool.and_eq_true] at h3
            obtain ⟨⟨h3, h4⟩, h5⟩ := h3
            obtain ⟨x0, rfl, q1, q2⟩ := xe_g0 h3 hg
            have h4 : a.2.1 = 2147483649 := by simpa using h4
            have h5 : a.2.2 = 2147483649 := by simpa using h5
            have e1 : x0 = nI 1 := xe_nI (by omega)
            subst e1
            exact lw_ret hx hb hr hlocks hdg
          · cases hret
        · next a2 =>
          split at hret
          · next t =>
            rw [Bool.and_eq_true] at t
            exact absurd t.1 (by decide +kernel)
          · cases hret
        · next a2 =>
          split at hret
          · next t =>
            rw [Bool.and_eq_true] at t
            exact absurd t.1 (by decide +kernel)
          · cases hret
        · split at hret
          · cases hret
          · cases hret
        · cases hret
      · cases h3
  · cases h
/-! boxes -/
def xb_cv (lo : Nat) (c : List xe_v) : Bool := match c with
  | [] => lo == 4294967296
  | a :: t => a.1 == 0 && a.2.1 == lo && xb_cv (a.2.2 + 1) t
theorem xb_cv_ok {b : Nat} {x : Int32} : ∀ {c : List xe_v} {lo : Nat}, xb_cv lo c = true → lo ≤ xe_i x → ∃ a ∈ c, xe_g b [] a (.int x)
  | [], lo, h, hx => by
    have e : lo = 4294967296 := by simpa [xb_cv] using h
    have := xe_i_lt x
    omega
  | a :: t, lo, h, hx => by
    unfold xb_cv at h
    simp only [Bool.and_eq_true] at h
    obtain ⟨⟨h1, h2⟩, h3⟩ := h
    have h2 : a.2.1 = lo := by simpa using h2
    have h1 : a.1 = 0 := by simpa using h1
    rcases Nat.lt_or_ge a.2.2 (xe_i x) with z | z
    · obtain ⟨a2, q1, q2⟩ := xb_cv_ok (b := b) h3 z
      exact ⟨a2, List.mem_cons_of_mem _ q1, q2⟩
    · refine ⟨a, List.mem_cons_self, ?_⟩
      unfold xe_g
      rw [h1]
      exact ⟨x, rfl, by omega, z⟩
def xb_pr : List (List xe_v) → List (List xe_v)
  | [] => [[]]
  | c :: cs => c.flatMap (fun a => (xb_pr cs).map (fun l => a :: l))
theorem xb_pr_ok {b : Nat} : ∀ {cs : List (List xe_v)} (f : Nat → Int32), (cs.all (fun c => xb_cv 0 c)) = true → ∃ l ∈ xb_pr cs, l.length = cs.length ∧ ∀ (k : Nat) (a : xe_v), l[k]? = some a → xe_g b [] a (.int (f k))
  | [], f, _ => ⟨[], List.mem_cons_self, rfl, fun k a h => by simp at h⟩
  | c :: cs, f, h => by
    rw [List.all_cons, Bool.and_eq_true] at h
    obtain ⟨a, ha, hg⟩ := xb_cv_ok (b := b) (x := f 0) h.1 (Nat.zero_le _)
    obtain ⟨l, hl, hn, hgl⟩ := xb_pr_ok (b := b) (fun k => f (k + 1)) h.2
    refine ⟨a :: l, List.mem_flatMap.mpr ⟨a, ha, List.mem_map.mpr ⟨l, hl, rfl⟩⟩, by rw [List.length_cons, List.length_cons, hn], fun k a2 hk => ?_⟩
    cases k with
    | zero =>
      simp only [List.getElem?_cons_zero, Option.some.injEq] at hk
      subst hk
      exact hg
    | succ k =>
      rw [List.getElem?_cons_succ] at hk
      exact hgl k a2 hk
def xb_T : List xe_v := [(0, 0, 4294967295)]
/-- the law's places as it comes to the switch, and behind it -/
def xl_lv : List (Nat × xe_v) := [(3, (0, 2147483648, 2147483648)), (2, (3, 196, 0)), (1, (3, 0, 0)), (0, (4, 0, 0))]
def xl_go (n pc : Nat) (cs : List (List xe_v)) : Bool := (xb_pr cs).all (fun l => xl_ok (xe_run n 30 ((0, 0, 4294967295) :: l) 135 (xc 135) pc xl_lv [] xs_2 (0, 0)))
theorem xl_go_cut {n pc : Nat} {c : List xe_v} {cs : List (List xe_v)} (h : ∀ a ∈ c, xl_go n pc ([a] :: cs) = true) : xl_go n pc (c :: cs) = true := by
  refine List.all_eq_true.mpr (fun l hl => ?_)
  obtain ⟨a, ha, hl⟩ := List.mem_flatMap.mp hl
  refine List.all_eq_true.mp (h a ha) l ?_
  exact List.mem_flatMap.mpr ⟨a, List.mem_cons_self, hl⟩

set_option maxHeartbeats 4000000 in
theorem xl_box {p : Program} {l : Launch} {e : Env} {s : State} {m : MethodId} {below : List Frame} {meth : Method} {c : Code} {b n pc c0 s0 : Nat} {xs : Nat → Int32} {D : va_G} {E : Nat → ClassId} {lc : List (Nat × Value)} {as : List Nat} {ws : va_W} {H : Heap} {locs : List Loc} {ls : Array Slot} {cs : List (List xe_v)} (C0 : lw_At p s m meth c b 6 xs) (hK : va_K D xk_cl (xe_tys E) s) (hc0 : c0 ≤ 600000) (hs0 : s0 ≤ 7302250)
    (hR : xe_R E b as xs_2 ws) (hP : va_P D xk_cl ws H) (hD : va_D (xl_A s) ws) (hS : va_S (xl_A s) s.heap H locs) (hl : lv_has ls 4 lc) (hp : xe_p b as xl_lv lc)
    (hv : (cs.all fun c => xb_cv 0 c) = true) (h5 : cs.length = 5) (h : xl_go n pc cs = true) : W p l e room_1 s m #[Value.ref b] below meth c H locs c0 s0 (lw_Z below #[Value.ref b] s) (F0 m pc ls []) := by
  obtain ⟨lb, h1, h2, h3⟩ := xb_pr_ok (b := b) (fun k => xs (k + 1)) hv
  have h4 := List.all_eq_true.mp h lb h1
  have hn : ((0, 0, 4294967295) :: lb : List xe_v).length = 6 := by rw [List.length_cons, h2, h5]
  refine xl_run C0 hK (Or.inr ⟨xs, ?_, C0.2.2.2.2.2.2.2.1, Nat.not_le.mpr C0.2.2.2.2.2.2.2.1, fun k a hk => ?_, ?_⟩) h4 hc0 hs0 hR hP hD hS hl hp
  · rw [hn]
    exact C0.2.2.2.2.2.2.1
  · cases k with
    | zero =>
      simp only [List.getElem?_cons_zero, Option.some.injEq] at hk
      subst hk
      exact xe_gt _
    | succ k =>
      rw [List.getElem?_cons_succ] at hk
      exact h3 k a hk
  · rw [hn]
    decide
