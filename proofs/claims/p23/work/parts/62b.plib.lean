/-! the plain machine is right: what it does of the library by itself -/
theorem px_kd7 {I : Jvm.ClassFile.Instr} {x : Nat} (h : px_kd I x = 7) : (∃ i, I = .invokevirtual i ∧ x = 6) ∨ ∃ i, I = .invokestatic i ∧ (x = 7 ∨ x = 8) := by
  unfold px_kd at h
  split at h
  · next i =>
    split at h
    · next e => exact Or.inl ⟨i, rfl, e⟩
    · cases h
  · next i =>
    split at h
    · next e => exact Or.inr ⟨i, rfl, e⟩
    · unfold xe_kd at h
      dsimp only at h
      split at h
      · cases h
      · split at h <;> cases h
  · next h1 h2 =>
    unfold xe_kd at h
    split at h <;> (try dsimp only at h) <;> first | (cases h; done) | (next i => exact absurd rfl (h1 i)) | (next i => exact absurd rfl (h2 i)) | (split at h <;> cases h)
theorem px_ixo6 {d : Nat} {st st2 : List pv} (h : px_ixo d 6 st = some st2) : ∃ (ch : Int32) (k : Nat) (r : List pv), st = .inl ch :: .inr (.inr (some k)) :: r ∧ (8 ≤ d ∧ px_sum r ≤ 8 ∧ 1001 ≤ k ∧ k < 1006) ∧ st2 = .inl (xs_ix (k - 1001) ch) :: r := by
  unfold px_ixo at h
  split at h
  · split at h
    · split at h
      · next g => exact ⟨_, _, _, rfl, g, (Option.some.inj h).symm⟩
      · cases h
    · cases h
  · next e => cases e
  · next e => cases e
  · cases h
theorem px_u1_s {f : Int32 → Int32} {st st2 : List pv} (h : px_u1 f st = some st2) : ∃ (x : Int32) (r : List pv), st = .inl x :: r ∧ st2 = .inl (f x) :: r := by
  unfold px_u1 at h
  split at h
  · exact ⟨_, _, rfl, (Option.some.inj h).symm⟩
  · cases h
section PIXO
variable {p : Program} {l : Launch} {e : Env} {R : Room} {s : State} {m : MethodId} {args : Array Value} {below : List Frame} {meth : Method} {c : Code} {H : Heap} {locs : List Loc} {cells slots : Nat} {Q : State → Prop}
variable {D : va_G} {E : Nat → ClassId} {A : Nat → Prop} {b : Nat} {ad : Nat → Nat} {ly : List (Nat × Nat)} {h : pH} {sc : pS} {d μ : Nat}
/-- behind a pure call of the library -/
theorem px_lib {pc : Nat} {ls : Array Slot} {rest st0 : List Value} {a : Array Value} {r : Int32} (hr : va_Run p l e R s m args below meth c H locs cells slots 0 0 (F0 m pc ls st0) rest (va_Qi (fun (z : Int32) (_ : Unit) => z = r) (fun _ _ => True) (va_A [] H.size) a) (va_A [] H.size)) (hS : va_S A s.heap H locs) (hP : va_P D xk_cl (pW ly E ad h) H) (hD : va_D A (pW ly E ad h)) (hA : ∀ q : Nat, s.heap.size ≤ q → A q)
    (kk : ∀ (H1 : Heap) (locs1 : List Loc), va_P D xk_cl (pW ly E ad h) H1 → va_D A (pW ly E ad h) → va_S A s.heap H1 locs1 → W p l e R s m args below meth c H1 locs1 cells slots Q (F0 m (pc + 3) ls (.int r :: rest))) : W p l e R s m args below meth c H locs cells slots Q (F0 m pc ls st0) := by
  have hAn : ∀ q : Nat, va_A [] H.size q → A q := fun q h => by
    rcases h with ⟨k, e, h⟩ | h
    · cases h
    · exact hA q (Nat.le_trans hS.1 h)
  refine va_calli hr hS (fun q _ h => hAn q h) (fun q h => hAn q h) (fun z u t H1 locs1 ht hvm hw hB hz1 hk1 hS1 => ?_)
  subst hw
  refine kk H1 locs1 (fun k w hw => ?_) hD hS1
  have h1 := hP k w hw
  exact h1.kept (hk1 w.1 h1.lt (fun z => by
    rcases z with ⟨k2, e2, z⟩ | z
    · cases z
    · exact absurd h1.lt (Nat.not_lt.mpr z)))
set_option maxHeartbeats 4000000 in
theorem px_ixo_ok {pc : Nat} {q : xe_I} {st st2 : List pv} {ls : Array Slot} (X : xe_X p R s m args meth c D E A b [] d μ) (hsc : pSS sc ad s A) (hk : xe_chk μ q pc = true) (hkd : px_kd q.1 q.2.2.1 = 7) (hP : va_P D xk_cl (pW ly E ad h) H) (hD : va_D A (pW ly E ad h)) (hS : va_S A s.heap H locs) (hls : ls.size = (xm μ).2.2.1) (hcs : cells ≤ R.cells ∧ slots ≤ R.slots)
    (hh : px_ixo d q.2.2.1 st = some st2) (kk : ∀ (H1 : Heap) (locs1 : List Loc), va_P D xk_cl (pW ly E ad h) H1 → va_D A (pW ly E ad h) → va_S A s.heap H1 locs1 → W p l e R s m args below meth c H1 locs1 cells slots Q (F0 m (pc + 3) ls (st2.map (pV ad)))) : W p l e R s m args below meth c H locs cells slots Q (F0 m pc ls (st.map (pV ad))) := by
  obtain ⟨I, len, x, y, z⟩ := q
  unfold xe_chk at hk
  dsimp only at hh kk hk hkd
  rw [Bool.and_eq_true, Bool.and_eq_true] at hk
  obtain ⟨⟨hlen, hdg0⟩, hcw⟩ := hk
  have hdg := of_decide_eq_true hdg0
  clear hdg0
  obtain ⟨⟨hx, hb, hml, hown, hret, hnm, hlk⟩, ⟨hts, hN, hAO, hK⟩, ⟨hA, hd1, hd2, hd3, hd4⟩, -⟩ := id X
  obtain ⟨⟨adV, hE⟩, -, hZ⟩ := hsc.2
  rcases px_kd7 hkd with ⟨i, rfl, rfl⟩ | ⟨i, rfl, hx78⟩
  · have hlen : len = 3 := xe_l1 hlen rfl (by decide)
    subst hlen
    obtain ⟨ch, k, r, rfl, g, rfl⟩ := px_ixo6 hh
    have hi : k - 1001 < 5 := by omega
    unfold xe_cw at hcw
    dsimp only at hcw
    rw [if_neg (by decide), if_pos (by decide)] at hcw
    have hlink := xt_mem (of_decide_eq_true hcw)
    have ek : ad (1001 + (k - 1001)) = ad k := by
      rw [show 1001 + (k - 1001) = k by omega]
    have hc := jm_ixI l (fun i => ad (1001 + i)) adV H.size (k - 1001) hi ch
    have hrec := vk_recv hE hi hS
    rw [ek] at hrec
    unfold jM at hc
    rw [ek] at hc
    refine px_lib (va_runV (As := [.int ch]) (rest := r.map (pV ad)) ⟨hx, hb, hml, hown, hts⟩ hc (cwV (own := (xm μ).1.cls) (C := "java/lang/String") (ws' := xe_T) 1 hts (xe_GT (fun w hw => by
      rcases List.mem_append.mp hw with hw | hw
      · simp only [List.mem_cons, List.not_mem_nil, or_false] at hw
        rcases hw with rfl | rfl | rfl | rfl
        · exact hlink
        · exact jx_i_ixI
        · exact jx_s_ixI
        · exact jx_n_S
      · exact j_good jx_c_ixI w hw)) rfl rfl rfl (by decide +kernel) ⟨by show 4 + 1 ≤ R.frames; omega, by show 8 + (2 + 11) + 64 * 4 ≤ R.locals; omega⟩) ⟨j_blind, hrec, j_pre hS hA hE hZ⟩ rfl rfl hls rfl (lv_room (by rw [px_sum_ok]; exact g.2.1)) hdg ⟨hcs.1, hcs.2⟩) hS hP hD hA kk
  · have hlen : len = 3 := xe_l1 hlen rfl (by decide)
    subst hlen
    rcases hx78 with rfl | rfl
    · have hh : (if 1 ≤ d ∧ px_sum st ≤ 8 then px_u1 xs_bc st else none) = some st2 := hh
      split at hh
      · next t =>
        obtain ⟨x1, r1, rfl, rfl⟩ := px_u1_s hh
        unfold xe_cw at hcw
        dsimp only at hcw
        rw [if_neg (by decide), if_neg (by decide), if_neg (by decide), if_neg (by decide), if_neg (by decide), if_neg (by decide), if_pos (by decide)] at hcw
        have hlink := xt_mem (of_decide_eq_true hcw)
        refine px_lib (va_runS (As := [.int x1]) (rest := r1.map (pV ad)) ⟨hx, hb, hml, hown, hts⟩ (jm_bc l (fun i => ad (1001 + i)) adV H.size x1) (va_cwS (own := (xm μ).1.cls) (ws' := xe_T) 1 hts (xe_GT (fun w hw => by
          rcases List.mem_append.mp hw with hw | hw
          · simp only [List.mem_cons, List.not_mem_nil, or_false] at hw
            rcases hw with rfl | rfl | rfl
            · exact hlink
            · exact jx_t_bc
            · exact jx_n_I
          · exact j_good jx_c_bc w hw)) rfl rfl rfl ⟨by decide, by decide, by decide +kernel⟩ ⟨by show 0 + 1 ≤ R.frames; omega, by show 8 + (1 + 11) + 64 * 0 ≤ R.locals; omega⟩) ⟨j_blind, j_pre hS hA hE hZ⟩ rfl rfl hls rfl (lv_room (by
          have t2 : px_sum (.inl x1 :: r1) ≤ 8 := t.2
          have e2 : px_sum (.inl x1 :: r1) = 1 + px_sum r1 := rfl
          rw [px_sum_ok]
          omega)) hdg ⟨hcs.1, hcs.2⟩) hS hP hD hA kk
      · cases hh
    · have hh : (if 1 ≤ d ∧ px_sum st ≤ 8 then px_u1 xs_ab st else none) = some st2 := hh
      split at hh
      · next t =>
        obtain ⟨x1, r1, rfl, rfl⟩ := px_u1_s hh
        unfold xe_cw at hcw
        dsimp only at hcw
        rw [if_neg (by decide), if_neg (by decide), if_neg (by decide), if_neg (by decide), if_neg (by decide), if_neg (by decide), if_neg (by decide), if_pos (by decide)] at hcw
        have hlink := xt_mem (of_decide_eq_true hcw)
        have t2 : px_sum (.inl x1 :: r1) ≤ 8 := t.2
        have e2 : px_sum (.inl x1 :: r1) = 1 + px_sum r1 := rfl
        refine va_mabs hx hb (hml.trans hls.symm) hown (hts _ hlink) (hts _ jx_abT) (hts _ xw_math.1) (hts _ jx_abC) (by omega) (by rw [px_sum_ok]; omega) hcs.1 hcs.2 hdg ?_
        have e3 : (if 0 ≤ x1 then x1 else 0 - x1) = xs_ab x1 := by
          unfold xs_ab
          by_cases z : x1 < 0
          · rw [if_pos z, if_neg (fun g => by have z := i32_lt0.mp z; have g := Jvm.Kit.i32_nonneg.mp g; omega), Int32.zero_sub]
          · rw [if_neg z, if_pos (Jvm.Kit.i32_nonneg.mpr (by have z2 : ¬ x1.toInt < 0 := fun g => z (i32_lt0.mpr g); omega))]
        rw [e3]
        exact kk H locs hP hD hS
      · cases hh
end PIXO
