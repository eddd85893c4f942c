/-! the plain machine is right: ways on, stores -/
theorem px_tg_ok {pc : Nat} {f : Int} (h : 0 ≤ (pc : Int) + f) : (pc : Int) + f = (px_tg pc f : Int) := (Int.toNat_of_nonneg h).symm
theorem pL_fil (ad : Nat → Nat) {f : Nat × pv → Bool} {g : Nat × Value → Bool} (hfg : ∀ q, f q = g (q.1, pV ad q.2)) (lv : List (Nat × pv)) : pL ad (lv.filter f) = (pL ad lv).filter g := by
  unfold pL
  rw [List.filter_map]
  have : (g ∘ fun q : Nat × pv => (q.1, pV ad q.2)) = f := funext (fun q => (hfg q).symm)
  rw [this]
theorem pc2_ok (ad : Nat → Nat) (v : pv) : pc2 v = ((pV ad v).category == 2) := by
  rw [pV_cat]
  cases pc2 v <;> rfl
theorem px_s1_ok (ad : Nat → Nat) (lv : List (Nat × pv)) (i : Nat) (a : pv) : (i, pV ad a) :: (pL ad lv).filter (fun q => !(q.1 == i) && !(q.1 + 1 == i && q.2.category == 2)) = pL ad (px_s1 lv i a) := by
  show _ = (i, pV ad a) :: pL ad (lv.filter _)
  rw [pL_fil ad (g := fun q => !(q.1 == i) && !(q.1 + 1 == i && q.2.category == 2)) (fun q => by dsimp only; rw [pc2_ok ad])]
theorem px_s2_ok (ad : Nat → Nat) (lv : List (Nat × pv)) (i : Nat) (a : pv) : (i, pV ad a) :: (pL ad lv).filter (fun q => !(q.1 == i) && (!(q.1 == i + 1) && !(q.1 + 1 == i && q.2.category == 2))) = pL ad (px_s2 lv i a) := by
  show _ = (i, pV ad a) :: pL ad (lv.filter _)
  rw [pL_fil ad (g := fun q => !(q.1 == i) && (!(q.1 == i + 1) && !(q.1 + 1 == i && q.2.category == 2))) (fun q => by dsimp only; rw [pc2_ok ad])]
theorem px_fs {N y : Nat} {f g : Nat → Value} {v : Value} (hg : ∀ y2, g y2 = if y2 = y then v else f y2) : ((List.range N).map f).set y v = (List.range N).map g := by
  refine List.ext_getElem? (fun j => ?_)
  by_cases e : y = j
  · subst e
    by_cases hl : y < N
    · rw [List.getElem?_set_self (by rw [List.length_map, List.length_range]; exact hl), List.getElem?_map, List.getElem?_range hl, Option.map_some, hg, if_pos rfl]
    · rw [List.getElem?_eq_none (by rw [List.length_set, List.length_map, List.length_range]; omega), List.getElem?_eq_none (by rw [List.length_map, List.length_range]; omega)]
  · rw [List.getElem?_set_ne e, List.getElem?_map, List.getElem?_map]
    by_cases hl : j < N
    · rw [List.getElem?_range hl, Option.map_some, Option.map_some, hg, if_neg (fun z => e z.symm)]
    · rw [List.getElem?_eq_none (by rw [List.length_range]; omega)]
      rfl
theorem pu_self {α : Type} (f : Nat → Nat → α) (k y : Nat) (v : α) (j : Nat) : pu f k y v k j = if j = y then v else f k j := by
  unfold pu
  by_cases h : j = y
  · rw [if_pos ⟨rfl, h⟩, if_pos h]
  · rw [if_neg (fun z => h z.2), if_neg h]
theorem pu_ne2 {α : Type} (f : Nat → Nat → α) {k k2 : Nat} (y : Nat) (v : α) (h : k2 ≠ k) (j : Nat) : pu f k y v k2 j = f k2 j := by
  unfold pu
  rw [if_neg (fun z => h z.1)]
theorem pF_i {h : pH} {x k y : Nat} {n : Int32} (ht : xk_ty x y = .int ∨ xk_ty x y = .boolean) (y2 : Nat) : pF (pu h.1 k y n, h.2) x k y2 = if y2 = y then .inl n else pF h x k y2 := by
  by_cases e : y2 = y
  · subst e
    rw [if_pos rfl]
    unfold pF
    rcases ht with ht | ht <;> rw [ht] <;> (dsimp only; rw [pu_self, if_pos rfl])
  · rw [if_neg e]
    unfold pF
    dsimp only
    rw [pu_self, if_neg e]
theorem pF_l {h : pH} {x k y : Nat} {n : Int64} (ht : xk_ty x y = .long) (y2 : Nat) : pF (h.1, pu h.2.1 k y n, h.2.2) x k y2 = if y2 = y then .inr (.inl n) else pF h x k y2 := by
  by_cases e : y2 = y
  · subst e
    rw [if_pos rfl]
    unfold pF
    rw [ht]
    dsimp only
    rw [pu_self, if_pos rfl]
  · rw [if_neg e]
    unfold pF
    dsimp only
    rw [pu_self, if_neg e]
theorem pF_r {h : pH} {x k y : Nat} {n : Option Nat} (ht : (∃ C, xk_ty x y = .object C) ∨ ∃ t, xk_ty x y = .array t) (y2 : Nat) : pF (h.1, h.2.1, pu h.2.2.1 k y n, h.2.2.2) x k y2 = if y2 = y then .inr (.inr n) else pF h x k y2 := by
  by_cases e : y2 = y
  · subst e
    rw [if_pos rfl]
    unfold pF
    rcases ht with ⟨C, ht⟩ | ⟨t, ht⟩ <;> rw [ht] <;> (dsimp only; rw [pu_self, if_pos rfl])
  · rw [if_neg e]
    unfold pF
    dsimp only
    rw [pu_self, if_neg e]
theorem pCe_f {E : Nat → ClassId} {ad : Nat → Nat} {h h2 : pH} {k : Nat} (hf : ∀ x k2 y, k2 ≠ k → pF h2 x k2 y = pF h x k2 y) (hr : h2.2.2.2 = h.2.2.2) : ∀ (k2 : Nat) (t2 : Nat × Nat), k2 ≠ k → pCe E ad h2 k2 t2 = pCe E ad h k2 t2 := by
  intro k2 t2 hk
  have e : (fun y => pV ad (pF h2 t2.2 k2 y)) = fun y => pV ad (pF h t2.2 k2 y) := funext (fun y => by rw [hf _ _ _ hk])
  unfold pCe
  rw [e, hr]
theorem pCe_a {E : Nat → ClassId} {ad : Nat → Nat} {h h2 : pH} {k : Nat} (h1 : h2.1 = h.1) (h3 : h2.2.1 = h.2.1) (h4 : h2.2.2.1 = h.2.2.1) (ha : ∀ k2, k2 ≠ k → h2.2.2.2.1 k2 = h.2.2.2.1 k2) (hb : ∀ k2, k2 ≠ k → h2.2.2.2.2.1 k2 = h.2.2.2.2.1 k2) (hc : ∀ k2, k2 ≠ k → h2.2.2.2.2.2 k2 = h.2.2.2.2.2 k2) : ∀ (k2 : Nat) (t2 : Nat × Nat), k2 ≠ k → pCe E ad h2 k2 t2 = pCe E ad h k2 t2 := by
  intro k2 t2 hk
  have e : (fun y => pV ad (pF h2 t2.2 k2 y)) = fun y => pV ad (pF h t2.2 k2 y) := funext (fun y => by unfold pF; rw [h1, h3, h4])
  unfold pCe
  rw [e, ha k2 hk, hb k2 hk, hc k2 hk]
section PSTEP
variable {p : Program} {l : Launch} {e : Env} {R : Room} {s : State} {m : MethodId} {args : Array Value} {below : List Frame} {meth : Method} {c : Code} {H : Heap} {locs : List Loc} {cells slots : Nat} {Q : State → Prop}
variable {D : va_G} {E : Nat → ClassId} {A : Nat → Prop} {b : Nat} {ad : Nat → Nat} {ly : List (Nat × Nat)} {h : pH} {sc : pS} {d μ : Nat}
set_option maxHeartbeats 8000000 in
theorem px_br_ok {pc : Nat} {q : xe_I} {st : List pv} {t : Nat × List pv} {ls : Array Slot} (X : xe_X p R s m args meth c D E A b [] d μ) (hk : xe_chk μ q pc = true) (hh : px_bf q.1 pc st = some t)
    (kk : W p l e R s m args below meth c H locs cells slots Q (F0 m t.1 ls (t.2.map (pV ad)))) : W p l e R s m args below meth c H locs cells slots Q (F0 m pc ls (st.map (pV ad))) := by
  obtain ⟨I, len, x, y, z⟩ := q
  unfold xe_chk at hk
  dsimp only at hh hk
  rw [Bool.and_eq_true, Bool.and_eq_true] at hk
  obtain ⟨⟨hlen, hdg0⟩, hcw⟩ := hk
  have hdg := of_decide_eq_true hdg0
  clear hdg0
  obtain ⟨⟨hx, hb, hml, hown, hret, hnm, hlk⟩, -⟩ := X
  unfold px_bf at hh
  split at hh <;> (try dsimp only at hh)
  · have hlen : len = 3 := xe_l1 hlen rfl (by decide)
    subst hlen
    split at hh
    · next g =>
      cases hh
      exact lv_goto hx hb hdg (px_tg_ok g) kk
    · cases hh
  · have hlen : len = 3 := xe_l1 hlen rfl (by decide)
    subst hlen
    split at hh
    · split at hh
      · next g =>
        split at hh
        · split at hh
          · next g2 =>
            cases hh
            exact lv_if_eq hx hb hdg (px_tg_ok g) (fun _ => kk) (fun n => absurd g2 n)
          · next g2 =>
            cases hh
            exact lv_if_eq hx hb hdg (px_tg_ok g) (fun n => absurd n g2) (fun _ => kk)
        · split at hh
          · next g2 =>
            cases hh
            exact lv_if_ne hx hb hdg (px_tg_ok g) (fun n => absurd g2 n) (fun _ => kk)
          · next g2 =>
            cases hh
            exact lv_if_ne hx hb hdg (px_tg_ok g) (fun _ => kk) (fun n => absurd n g2)
        · split at hh
          · next g2 =>
            cases hh
            exact lv_if_lt hx hb hdg (px_tg_ok g) (fun _ => kk) (fun n => absurd g2 n)
          · next g2 =>
            cases hh
            exact lv_if_lt hx hb hdg (px_tg_ok g) (fun n => absurd n g2) (fun _ => kk)
        · split at hh
          · next g2 =>
            cases hh
            exact lv_if_ge hx hb hdg (px_tg_ok g) (fun n => absurd g2 (Int32.not_lt.mpr n)) (fun _ => kk)
          · next g2 =>
            cases hh
            exact lv_if_ge hx hb hdg (px_tg_ok g) (fun _ => kk) (fun n => absurd (Int32.not_lt.mp g2) n)
        · split at hh
          · next g2 =>
            cases hh
            exact lv_if_gt hx hb hdg (px_tg_ok g) (fun _ => kk) (fun n => absurd g2 n)
          · next g2 =>
            cases hh
            exact lv_if_gt hx hb hdg (px_tg_ok g) (fun n => absurd n g2) (fun _ => kk)
        · split at hh
          · next g2 =>
            cases hh
            exact lv_if_le hx hb hdg (px_tg_ok g) (fun n => absurd g2 (Int32.not_lt.mpr n)) (fun _ => kk)
          · next g2 =>
            cases hh
            exact lv_if_le hx hb hdg (px_tg_ok g) (fun _ => kk) (fun n => absurd (Int32.not_lt.mp g2) n)
      · cases hh
    · cases hh
  · have hlen : len = 3 := xe_l1 hlen rfl (by decide)
    subst hlen
    split at hh
    · split at hh
      · next g =>
        split at hh
        · split at hh
          · next g2 =>
            cases hh
            exact lv_icmp_eq hx hb hdg (px_tg_ok g) (fun _ => kk) (fun n => absurd g2 n)
          · next g2 =>
            cases hh
            exact lv_icmp_eq hx hb hdg (px_tg_ok g) (fun n => absurd n g2) (fun _ => kk)
        · split at hh
          · next g2 =>
            cases hh
            exact lv_icmp_ne hx hb hdg (px_tg_ok g) (fun n => absurd g2 n) (fun _ => kk)
          · next g2 =>
            cases hh
            exact lv_icmp_ne hx hb hdg (px_tg_ok g) (fun _ => kk) (fun n => absurd n g2)
        · split at hh
          · next g2 =>
            cases hh
            exact lv_icmp_lt hx hb hdg (px_tg_ok g) (fun _ => kk) (fun n => absurd g2 n)
          · next g2 =>
            cases hh
            exact lv_icmp_lt hx hb hdg (px_tg_ok g) (fun n => absurd n g2) (fun _ => kk)
        · split at hh
          · next g2 =>
            cases hh
            exact lv_icmp_ge hx hb hdg (px_tg_ok g) (fun n => absurd g2 (Int32.not_lt.mpr n)) (fun _ => kk)
          · next g2 =>
            cases hh
            exact lv_icmp_ge hx hb hdg (px_tg_ok g) (fun _ => kk) (fun n => absurd (Int32.not_lt.mp g2) n)
        · split at hh
          · next g2 =>
            cases hh
            exact lv_icmp_gt hx hb hdg (px_tg_ok g) (fun _ => kk) (fun n => absurd g2 n)
          · next g2 =>
            cases hh
            exact lv_icmp_gt hx hb hdg (px_tg_ok g) (fun n => absurd n g2) (fun _ => kk)
        · split at hh
          · next g2 =>
            cases hh
            exact lv_icmp_le hx hb hdg (px_tg_ok g) (fun n => absurd g2 (Int32.not_lt.mpr n)) (fun _ => kk)
          · next g2 =>
            cases hh
            exact lv_icmp_le hx hb hdg (px_tg_ok g) (fun _ => kk) (fun n => absurd (Int32.not_lt.mp g2) n)
      · cases hh
    · cases hh
  · have hlen : len = 3 := xe_l1 hlen rfl (by decide)
    subst hlen
    split at hh
    · split at hh
      · next g =>
        cases hh
        exact lv_ifnullN hx hb hdg (px_tg_ok g) kk
      · cases hh
    · cases hh
      exact lv_ifnull hx hb hdg kk
    · cases hh
  · have hlen : len = 3 := xe_l1 hlen rfl (by decide)
    subst hlen
    split at hh
    · cases hh
      exact lv_ifnonnullN hx hb hdg kk
    · split at hh
      · next g =>
        cases hh
        exact lv_ifnonnull hx hb hdg (px_tg_ok g) kk
      · cases hh
    · cases hh
  · split at hh
    · split at hh
      · next g0 =>
        split at hh
        · next g =>
          cases hh
          exact lv_tableOut hx hb hdg g0 (px_tg_ok g) kk
        · cases hh
      · next g0 =>
        rw [not_or] at g0
        split at hh
        · next f hf =>
          split at hh
          · next g =>
            cases hh
            exact lv_tableIn hx hb hdg g0.1 g0.2 hf (px_tg_ok g) kk
          · cases hh
        · cases hh
    · cases hh
  · cases hh
set_option maxHeartbeats 8000000 in
theorem px_sto_ok {pc : Nat} {q : xe_I} {lv : List (Nat × pv)} {st : List pv} {w : List (Nat × pv) × List pv} {ls : Array Slot} (X : xe_X p R s m args meth c D E A b [] d μ) (hk : xe_chk μ q pc = true) (hl : lv_has ls (xm μ).2.2.1 (pL ad lv)) (hh : px_of q.1 (xm μ).2.2.1 lv st = some w)
    (kk : ∀ ls2 : Array Slot, lv_has ls2 (xm μ).2.2.1 (pL ad w.1) → W p l e R s m args below meth c H locs cells slots Q (F0 m (pc + q.2.1) ls2 (w.2.map (pV ad)))) : W p l e R s m args below meth c H locs cells slots Q (F0 m pc ls (st.map (pV ad))) := by
  obtain ⟨I, len, x, y, z⟩ := q
  unfold xe_chk at hk
  dsimp only at hh hk kk
  rw [Bool.and_eq_true, Bool.and_eq_true] at hk
  obtain ⟨⟨hlen, hdg0⟩, hcw⟩ := hk
  have hdg := of_decide_eq_true hdg0
  clear hdg0
  obtain ⟨⟨hx, hb, hml, hown, hret, hnm, hlk⟩, -⟩ := X
  unfold px_of at hh
  split at hh <;> (try dsimp only at hh)
  · have hlen : len = 2 := xe_l1 hlen rfl (by decide)
    subst hlen
    unfold px_ti at hh
    split at hh
    · split at hh
      · next g =>
        cases hh
        exact lv_istore hx hb hdg hl g (px_s1_ok ad lv _ (.inl _)) kk
      · cases hh
    · cases hh
  · have hlen : len = 1 := xe_l1 hlen rfl (by decide)
    subst hlen
    unfold px_ti at hh
    split at hh
    · split at hh
      · next g =>
        cases hh
        exact lv_istore_n hx hb hdg rfl hl g (px_s1_ok ad lv _ (.inl _)) kk
      · cases hh
    · cases hh
  · have hlen : len = 2 := xe_l1 hlen rfl (by decide)
    subst hlen
    unfold px_ta at hh
    split at hh
    · next x0 r =>
      split at hh
      · next g =>
        cases hh
        cases x0 with
        | none => exact lv_astoreN hx hb hdg hl g (px_s1_ok ad lv _ (.inr (.inr none))) kk
        | some k0 => exact lv_astore hx hb hdg hl g (px_s1_ok ad lv _ (.inr (.inr (some k0)))) kk
      · cases hh
    · cases hh
  · have hlen : len = 1 := xe_l1 hlen rfl (by decide)
    subst hlen
    unfold px_ta at hh
    split at hh
    · next x0 r =>
      split at hh
      · next g =>
        cases hh
        cases x0 with
        | none => exact lv_astore_nN hx hb hdg rfl hl g (px_s1_ok ad lv _ (.inr (.inr none))) kk
        | some k0 => exact lv_astore_n hx hb hdg rfl hl g (px_s1_ok ad lv _ (.inr (.inr (some k0)))) kk
      · cases hh
    · cases hh
  · have hlen : len = 2 := xe_l1 hlen rfl (by decide)
    subst hlen
    unfold px_tl at hh
    split at hh
    · split at hh
      · next g =>
        cases hh
        exact lv_lstore hx hb hdg hl g (px_s2_ok ad lv _ (.inr (.inl _))) kk
      · cases hh
    · cases hh
  · have hlen : len = 1 := xe_l1 hlen rfl (by decide)
    subst hlen
    unfold px_tl at hh
    split at hh
    · split at hh
      · next g =>
        cases hh
        exact lv_lstore_n hx hb hdg rfl hl g (px_s2_ok ad lv _ (.inr (.inl _))) kk
      · cases hh
    · cases hh
  · have hlen : len = 3 := xe_l1 hlen rfl (by decide)
    subst hlen
    split at hh
    · next x0 hx0 =>
      obtain ⟨k, hk⟩ := px_lg_ok (ad := ad) hx0
      split at hh
      · next g =>
        cases hh
        exact lv_iinc hx hb hdg hl hk rfl g (px_s1_ok ad lv _ (.inl _)) kk
      · cases hh
    · cases hh
  · cases hh
set_option maxHeartbeats 8000000 in
theorem px_putw_ok {pc i x y z : Nat} {st : List pv} {w : List pv × pH} {ls : Array Slot} (X : xe_X p R s m args meth c D E A b [] d μ) (hdg : decode (xm μ).2.1 pc = .ok (.putfield i, 3)) (hcw : xe_cw μ (.putfield i, 3, x, y, z) = true) (hP : va_P D xk_cl (pW ly E ad h) H) (hD : va_D A (pW ly E ad h)) (hS : va_S A s.heap H locs) (hin : (xm μ).2.2.2.2.2.2.2 = 2 → meth.name = "<init>") (hh : px_put ly h x y st = some w)
    (kk : ∀ (H2 : Heap) (locs2 : List Loc), va_P D xk_cl (pW ly E ad w.2) H2 → va_D A (pW ly E ad w.2) → va_S A s.heap H2 locs2 → W p l e R s m args below meth c H2 locs2 cells slots Q (F0 m (pc + 3) ls (w.1.map (pV ad)))) : W p l e R s m args below meth c H locs cells slots Q (F0 m pc ls (st.map (pV ad))) := by
  obtain ⟨⟨hx, hb, hml, hown, hret, hnm, hlk⟩, ⟨hts, hN, hAO, hK⟩, -, -⟩ := X
  unfold px_put at hh
  split at hh
  · next v k r =>
    split at hh
    · next hk =>
      unfold xe_cw at hcw
      dsimp only at hcw
      split at hcw
      · next r0 hr0 =>
        rw [Bool.and_eq_true, Bool.and_eq_true] at hcw
        obtain ⟨C, T, N⟩ := r0
        obtain ⟨u1, u2, u3, u4, u5⟩ := xu_w hr0
        have hlink := hts _ (xt_mem (of_decide_eq_true hcw.1.2))
        have hyN : y < N := Nat.le_of_ble_eq_true hcw.1.1
        have hnf : pnf x = N := by unfold pnf; rw [hr0]
        have hat := pW_at (E := E) (ad := ad) (h := h) hk
        have hlen : y < ((List.range (pnf x)).map (fun y => pV ad (pF h x k y))).length := by rw [List.length_map, List.length_range, hnf]; exact hyN
        have key : ∀ h2 : pH, (∀ y2, pF h2 x k y2 = if y2 = y then v else pF h x k y2) → (∀ x2 k2 y2, k2 ≠ k → pF h2 x2 k2 y2 = pF h x2 k2 y2) → h2.2.2.2 = h.2.2.2 → narrow (xk_ty x y) (pV ad v) = pV ad v → fits (xk_ty x y) (pV ad v) = true → w = (r, h2) → W p l e R s m args below meth c H locs cells slots Q (F0 m pc ls ((v :: .inr (.inr (some k)) :: r : List pv).map (pV ad))) := by
          intro h2 e1 e2 e3 f1 f2 ew
          subst ew
          have hset : (pW ly E ad h).set k (ad k, .inr (x, ((List.range (pnf x)).map (fun y => pV ad (pF h x k y))).set y (pV ad v))) = pW ly E ad h2 := by
            rw [px_fs (g := fun y2 => pV ad (pF h2 x k y2)) (fun y2 => by rw [e1]; split <;> rfl)]
            exact pW_set hk (pCe_f e2 e3)
          cases hfin : (T y).2.2.2 with
          | false =>
            refine va_put hx hb hts u1 (xk_ty x) u2 u5 hown hK hP hD hS k hat hr0 y hyN hlink (fun _ h9 => h9) hfin (u2 y hyN) f1 f2 hlen hdg (fun H2 locs2 hP2 hD2 hS2 => ?_)
            rw [hset] at hP2 hD2
            exact kk _ _ hP2 hD2 hS2
          | true =>
            have h9 := hcw.2
            dsimp only at h9
            rw [hfin, if_pos rfl, Bool.and_eq_true] at h9
            refine va_putF hx hb hts u1 (xk_ty x) u2 u5 hown hK hP hD hS k hat hr0 y hyN hlink (fun _ h9 => h9) hfin (hin (by simpa using h9.1)) (of_decide_eq_true h9.2) (u2 y hyN) f1 f2 hlen hdg (fun H2 locs2 hP2 hD2 hS2 => ?_)
            rw [hset] at hP2 hD2
            exact kk _ _ hP2 hD2 hS2
        split at hh
        · next n ht =>
          cases hh
          exact key _ (pF_i (Or.inl ht)) (fun x2 k2 y2 hk2 => by unfold pF; dsimp only; rw [pu_ne2 _ _ _ hk2]) rfl (by rw [ht]; rfl) (by rw [ht]; rfl) rfl
        · next n ht =>
          split at hh
          · next g =>
            cases hh
            refine key _ (pF_i (Or.inr ht)) (fun x2 k2 y2 hk2 => by unfold pF; dsimp only; rw [pu_ne2 _ _ _ hk2]) rfl ?_ ?_ rfl
            · rw [ht]
              rcases g with rfl | rfl <;> first | (show narrow .boolean (.int _) = .int _; decide +kernel) | (show fits .boolean (.int _) = true; decide +kernel)
            · rw [ht]
              rcases g with rfl | rfl <;> first | (show narrow .boolean (.int _) = .int _; decide +kernel) | (show fits .boolean (.int _) = true; decide +kernel)
          · cases hh
        · next n ht =>
          cases hh
          exact key _ (pF_l ht) (fun x2 k2 y2 hk2 => by unfold pF; dsimp only; rw [pu_ne2 _ _ _ hk2]) rfl (by rw [ht]; rfl) (by rw [ht]; rfl) rfl
        · next C2 n ht =>
          cases hh
          refine key _ (pF_r (Or.inl ⟨_, ht⟩)) (fun x2 k2 y2 hk2 => by unfold pF; dsimp only; rw [pu_ne2 _ _ _ hk2]) rfl ?_ ?_ rfl
          · rw [ht]; cases n <;> rfl
          · rw [ht]; cases n <;> rfl
        · next C2 n ht =>
          cases hh
          refine key _ (pF_r (Or.inr ⟨_, ht⟩)) (fun x2 k2 y2 hk2 => by unfold pF; dsimp only; rw [pu_ne2 _ _ _ hk2]) rfl ?_ ?_ rfl
          · rw [ht]; cases n <;> rfl
          · rw [ht]; cases n <;> rfl
        · cases hh
      · cases hcw
    · cases hh
  · cases hh
set_option maxHeartbeats 8000000 in
theorem px_iast_ok {pc : Nat} {st : List pv} {w : List pv × pH} {ls : Array Slot} (X : xe_X p R s m args meth c D E A b [] d μ) (hdg : decode (xm μ).2.1 pc = .ok (.iastore, 1)) (hP : va_P D xk_cl (pW ly E ad h) H) (hD : va_D A (pW ly E ad h)) (hS : va_S A s.heap H locs) (hh : px_iast ly h st = some w)
    (kk : ∀ (H2 : Heap) (locs2 : List Loc), va_P D xk_cl (pW ly E ad w.2) H2 → va_D A (pW ly E ad w.2) → va_S A s.heap H2 locs2 → W p l e R s m args below meth c H2 locs2 cells slots Q (F0 m (pc + 1) ls (w.1.map (pV ad)))) : W p l e R s m args below meth c H locs cells slots Q (F0 m pc ls (st.map (pV ad))) := by
  obtain ⟨⟨hx, hb, hml, hown, hret, hnm, hlk⟩, ⟨hts, hN, hAO, hK⟩, -, -⟩ := X
  unfold px_iast at hh
  split at hh
  · next v i k r =>
    split at hh
    · next t ht =>
      split at hh
      · next g =>
        split at hh
        · cases hh
        · next hin =>
          cases hh
          obtain ⟨tk, tn⟩ := t
          dsimp only at g
          subst g
          refine va_iast hx hb hK hP hD hS k 0 (pW_at ht) rfl hin hdg (fun H2 locs2 hP2 hD2 hS2 => ?_)
          have hset : (pW ly E ad h).set k (ad k, .inl (E 0, tn, .inl (upd (h.2.2.2.1 k) i.toNatClampNeg v))) = pW ly E ad (h.1, h.2.1, h.2.2.1, pu h.2.2.2.1 k i.toNatClampNeg v, h.2.2.2.2) := by
            have e1 : .inl (E 0, tn, .inl (upd (h.2.2.2.1 k) i.toNatClampNeg v)) = pCe E ad (h.1, h.2.1, h.2.2.1, pu h.2.2.2.1 k i.toNatClampNeg v, h.2.2.2.2) k (1, tn) := by
              unfold pCe
              dsimp only
              have : upd (h.2.2.2.1 k) i.toNatClampNeg v = pu h.2.2.2.1 k i.toNatClampNeg v k := funext (fun j => by rw [pu_self]; rfl)
              rw [this]
              rfl
            rw [e1]
            exact pW_set ht (pCe_a rfl rfl rfl (fun k2 hk2 => funext (fun j => pu_ne2 _ _ _ hk2 j)) (fun k2 hk2 => rfl) (fun _ _ => rfl))
          rw [hset] at hP2 hD2
          exact kk _ _ hP2 hD2 hS2
      · cases hh
    · cases hh
  · cases hh
set_option maxHeartbeats 8000000 in
theorem px_bast_ok {pc : Nat} {st : List pv} {w : List pv × pH} {ls : Array Slot} (X : xe_X p R s m args meth c D E A b [] d μ) (hdg : decode (xm μ).2.1 pc = .ok (.bastore, 1)) (hP : va_P D xk_cl (pW ly E ad h) H) (hD : va_D A (pW ly E ad h)) (hS : va_S A s.heap H locs) (hh : px_bast ly h st = some w)
    (kk : ∀ (H2 : Heap) (locs2 : List Loc), va_P D xk_cl (pW ly E ad w.2) H2 → va_D A (pW ly E ad w.2) → va_S A s.heap H2 locs2 → W p l e R s m args below meth c H2 locs2 cells slots Q (F0 m (pc + 1) ls (w.1.map (pV ad)))) : W p l e R s m args below meth c H locs cells slots Q (F0 m pc ls (st.map (pV ad))) := by
  obtain ⟨⟨hx, hb, hml, hown, hret, hnm, hlk⟩, ⟨hts, hN, hAO, hK⟩, -, -⟩ := X
  unfold px_bast at hh
  split at hh
  · next v i k r =>
    split at hh
    · next t ht =>
      split at hh
      · next g =>
        split at hh
        · cases hh
        · next hin =>
          cases hh
          obtain ⟨tk, tn⟩ := t
          dsimp only at g
          subst g
          refine va_bast hx hb hK hP hD hS k 1 (pW_at ht) rfl hin hdg (fun H2 locs2 hP2 hD2 hS2 => ?_)
          have hset : (pW ly E ad h).set k (ad k, .inl (E 1, tn, .inl (upd (h.2.2.2.1 k) i.toNatClampNeg (vp_nar .byte v)))) = pW ly E ad (h.1, h.2.1, h.2.2.1, pu h.2.2.2.1 k i.toNatClampNeg v.toInt8.toInt32, h.2.2.2.2) := by
            have e1 : .inl (E 1, tn, .inl (upd (h.2.2.2.1 k) i.toNatClampNeg (vp_nar .byte v))) = pCe E ad (h.1, h.2.1, h.2.2.1, pu h.2.2.2.1 k i.toNatClampNeg v.toInt8.toInt32, h.2.2.2.2) k (2, tn) := by
              unfold pCe
              dsimp only
              have : upd (h.2.2.2.1 k) i.toNatClampNeg (vp_nar .byte v) = pu h.2.2.2.1 k i.toNatClampNeg v.toInt8.toInt32 k := funext (fun j => by rw [pu_self]; rfl)
              rw [this]
              rfl
            rw [e1]
            exact pW_set ht (pCe_a rfl rfl rfl (fun k2 hk2 => funext (fun j => pu_ne2 _ _ _ hk2 j)) (fun k2 hk2 => rfl) (fun _ _ => rfl))
          rw [hset] at hP2 hD2
          exact kk _ _ hP2 hD2 hS2
      · cases hh
    · cases hh
  · cases hh
set_option maxHeartbeats 8000000 in
theorem px_last_ok {pc : Nat} {st : List pv} {w : List pv × pH} {ls : Array Slot} (X : xe_X p R s m args meth c D E A b [] d μ) (hdg : decode (xm μ).2.1 pc = .ok (.lastore, 1)) (hP : va_P D xk_cl (pW ly E ad h) H) (hD : va_D A (pW ly E ad h)) (hS : va_S A s.heap H locs) (hh : px_last ly h st = some w)
    (kk : ∀ (H2 : Heap) (locs2 : List Loc), va_P D xk_cl (pW ly E ad w.2) H2 → va_D A (pW ly E ad w.2) → va_S A s.heap H2 locs2 → W p l e R s m args below meth c H2 locs2 cells slots Q (F0 m (pc + 1) ls (w.1.map (pV ad)))) : W p l e R s m args below meth c H locs cells slots Q (F0 m pc ls (st.map (pV ad))) := by
  obtain ⟨⟨hx, hb, hml, hown, hret, hnm, hlk⟩, ⟨hts, hN, hAO, hK⟩, -, -⟩ := X
  unfold px_last at hh
  split at hh
  · next v i k r =>
    split at hh
    · next t ht =>
      split at hh
      · next g =>
        split at hh
        · cases hh
        · next hin =>
          cases hh
          obtain ⟨tk, tn⟩ := t
          dsimp only at g
          subst g
          refine va_last hx hb hK hP hD hS k 2 (pW_at ht) rfl hin hdg (fun H2 locs2 hP2 hD2 hS2 => ?_)
          have hset : (pW ly E ad h).set k (ad k, .inl (E 2, tn, .inr (.inl (vp_updL (h.2.2.2.2.1 k) i.toNatClampNeg v)))) = pW ly E ad (h.1, h.2.1, h.2.2.1, h.2.2.2.1, pu h.2.2.2.2.1 k i.toNatClampNeg v, h.2.2.2.2.2) := by
            have e1 : .inl (E 2, tn, .inr (.inl (vp_updL (h.2.2.2.2.1 k) i.toNatClampNeg v))) = pCe E ad (h.1, h.2.1, h.2.2.1, h.2.2.2.1, pu h.2.2.2.2.1 k i.toNatClampNeg v, h.2.2.2.2.2) k (3, tn) := by
              unfold pCe
              dsimp only
              have : vp_updL (h.2.2.2.2.1 k) i.toNatClampNeg v = pu h.2.2.2.2.1 k i.toNatClampNeg v k := funext (fun j => by rw [pu_self]; rfl)
              rw [this]
              rfl
            rw [e1]
            exact pW_set ht (pCe_a rfl rfl rfl (fun k2 hk2 => rfl) (fun k2 hk2 => funext (fun j => pu_ne2 _ _ _ hk2 j)) (fun _ _ => rfl))
          rw [hset] at hP2 hD2
          exact kk _ _ hP2 hD2 hS2
      · cases hh
    · cases hh
  · cases hh
set_option maxHeartbeats 8000000 in
theorem px_acp_ok {pc i : Nat} {st : List pv} {w : List pv × pH} {ls : Array Slot} (X : xe_X p R s m args meth c D E A b [] d μ) (hdg : decode (xm μ).2.1 pc = .ok (.invokestatic i, 3)) (hlink : (Cond.methodLink (xm μ).1.cls i arraycopyName).before args s = true)
    (hP : va_P D xk_cl (pW ly E ad h) H) (hD : va_D A (pW ly E ad h)) (hS : va_S A s.heap H locs) (hls : ls.size = (xm μ).2.2.1) (hh : px_acp ly d h st = some w)
    (kk : ∀ (H2 : Heap) (locs2 : List Loc), va_P D xk_cl (pW ly E ad w.2) H2 → va_D A (pW ly E ad w.2) → va_S A s.heap H2 locs2 → W p l e R s m args below meth c H2 locs2 cells slots Q (F0 m (pc + 3) ls (w.1.map (pV ad)))) : W p l e R s m args below meth c H locs cells slots Q (F0 m pc ls (st.map (pV ad))) := by
  obtain ⟨⟨hx, hb, hml, hown, hret, hnm, hlk⟩, ⟨hts, hN, hAO, hK⟩, ⟨hA, hd1, hd2, hd3, hd4⟩, -⟩ := X
  unfold px_acp at hh
  split at hh
  · next n dp a sp a0 r =>
    split at hh
    · next t t0 ht ht0 =>
      split at hh
      · next g =>
        obtain ⟨g1, g2, g3, g4, g5, g6, g7, g8, g9⟩ := g
        cases hh
        obtain ⟨tk, tn⟩ := t
        obtain ⟨uk, un⟩ := t0
        dsimp only at g3 g4 g8 g9
        subst g3
        subst g4
        have hnf : nativeFrameWords "java/lang/System" "arraycopy" 5 ≤ 7 := by decide +kernel
        have h8 : ((r.map (pV ad)).map fun v => v.category).sum ≤ 8 := by rw [px_sum_ok]; exact g2
        refine va_copyi hx hb (hml.trans hls.symm) hown hlink (hts _ xw_math.2.2.2) (hts _ xw_math.2.2.1) (hts _ xw_math.2.1) hK hP hD hS a0 a 0 0 (ty := .int) (pW_at ht0) (pW_at ht) rfl rfl rfl g5 g6 g7 g8 g9 (fun _ _ => rfl) (by omega) (by omega) hdg (fun H2 locs2 hP2 hD2 hS2 => ?_)
        have hset : (pW ly E ad h).set a (ad a, .inl (E 0, tn, .inl (va_cpy (h.2.2.2.1 a0) (h.2.2.2.1 a) sp.toNatClampNeg dp.toNatClampNeg n.toNatClampNeg))) = pW ly E ad (h.1, h.2.1, h.2.2.1, (fun k => if k = a then va_cpy (h.2.2.2.1 a0) (h.2.2.2.1 a) sp.toNatClampNeg dp.toNatClampNeg n.toNatClampNeg else h.2.2.2.1 k), h.2.2.2.2) := by
          have e1 : .inl (E 0, tn, .inl (va_cpy (h.2.2.2.1 a0) (h.2.2.2.1 a) sp.toNatClampNeg dp.toNatClampNeg n.toNatClampNeg)) = pCe E ad (h.1, h.2.1, h.2.2.1, (fun k => if k = a then va_cpy (h.2.2.2.1 a0) (h.2.2.2.1 a) sp.toNatClampNeg dp.toNatClampNeg n.toNatClampNeg else h.2.2.2.1 k), h.2.2.2.2) a (1, tn) := by
            unfold pCe
            dsimp only
            rw [if_pos rfl]
            rfl
          rw [e1]
          exact pW_set ht (pCe_a rfl rfl rfl (fun k2 hk2 => by dsimp only; rw [if_neg hk2]) (fun _ _ => rfl) (fun _ _ => rfl))
        rw [hset] at hP2 hD2
        exact kk _ _ hP2 hD2 hS2
      · cases hh
    · cases hh
  · cases hh
set_option maxHeartbeats 8000000 in
theorem px_wr_ok {pc : Nat} {q : xe_I} {st : List pv} {w : List pv × pH} {ls : Array Slot} (X : xe_X p R s m args meth c D E A b [] d μ) (hk : xe_chk μ q pc = true) (hin : (xm μ).2.2.2.2.2.2.2 = 2 → meth.name = "<init>")
    (hP : va_P D xk_cl (pW ly E ad h) H) (hD : va_D A (pW ly E ad h)) (hS : va_S A s.heap H locs) (hls : ls.size = (xm μ).2.2.1) (hh : px_wf q.1 ly d q.2.2.1 q.2.2.2.1 st h = some w)
    (kk : ∀ (H2 : Heap) (locs2 : List Loc), va_P D xk_cl (pW ly E ad w.2) H2 → va_D A (pW ly E ad w.2) → va_S A s.heap H2 locs2 → W p l e R s m args below meth c H2 locs2 cells slots Q (F0 m (pc + q.2.1) ls (w.1.map (pV ad)))) : W p l e R s m args below meth c H locs cells slots Q (F0 m pc ls (st.map (pV ad))) := by
  obtain ⟨I, len, x, y, z⟩ := q
  unfold xe_chk at hk
  dsimp only at hh hk kk
  rw [Bool.and_eq_true, Bool.and_eq_true] at hk
  obtain ⟨⟨hlen, hdg0⟩, hcw⟩ := hk
  have hdg := of_decide_eq_true hdg0
  clear hdg0
  unfold px_wf at hh
  split at hh <;> (try dsimp only at hh)
  · have hlen : len = 3 := xe_l1 hlen rfl (by decide)
    subst hlen
    exact px_putw_ok X hdg hcw hP hD hS hin hh kk
  · have hlen : len = 1 := xe_l1 hlen rfl (by decide)
    subst hlen
    exact px_iast_ok X hdg hP hD hS hh kk
  · have hlen : len = 1 := xe_l1 hlen rfl (by decide)
    subst hlen
    exact px_bast_ok X hdg hP hD hS hh kk
  · have hlen : len = 1 := xe_l1 hlen rfl (by decide)
    subst hlen
    exact px_last_ok X hdg hP hD hS hh kk
  · have hlen : len = 3 := xe_l1 hlen rfl (by decide)
    subst hlen
    split at hh
    · next e0 =>
      subst e0
      unfold xe_cw at hcw
      dsimp only at hcw
      exact px_acp_ok X hdg (X.2.1.1 _ (xt_mem (of_decide_eq_true hcw))) hP hD hS hls hh kk
    · cases hh
  · cases hh
end PSTEP
