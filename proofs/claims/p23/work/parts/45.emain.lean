/-! the reckoner with bounds: whole runs -/
abbrev eCT : Type := Nat → Option (eS → Bool)
abbrev eRT : Type := Option eV → eS → Bool
def ax_rcv (q : xe_I) (A : eS) : Option eV := match q.1 with
  | .getfield _ => A.2.2.2.2.2[0]?
  | .putfield _ => A.2.2.2.2.2[1]?
  | .invokevirtual _ => if Nat.beq q.2.2.1 0 then A.2.2.2.2.2[(xm q.2.2.2.1).2.2.2.2.2.1]? else none
  | _ => none
def ax_two (A : eS) (a : eV) : Option (Nat × Nat) := match er_set A a with
  | [u, v] => some (u, v)
  | _ => none
def ax_spl (q : xe_I) (A : eS) : Option (eV × Nat × Nat) := match ax_rcv q A with
  | none => none
  | some a => match ax_two A a with
    | none => none
    | some p => some (a, p.1, p.2)
theorem s_R_at {ρ : List Int} : ∀ {S : List eV} {st : List pv} {i : Nat} {a : eV}, s_R ρ S st → S[i]? = some a → ∃ v, v_R ρ a v
  | [], [], i, a, _, h => by cases h
  | b :: S, v :: st, 0, a, hs, h => by
    cases h
    exact ⟨v, hs.1⟩
  | b :: S, v :: st, i + 1, a, hs, h => s_R_at (S := S) (st := st) (i := i) hs.2 h
theorem ax_spl_ok {c : eX} {ρ : List Int} {A : eS} {h : pH} {st : List pv} {q : xe_I} {a : eV} {u v : Nat} (hb : b_R c ρ A h) (hs : s_R ρ A.2.2.2.2.2 st) (hq : ax_spl q A = some (a, u, v)) : ∃ x, ρ[er_sym a]? = some x ∧ (x.toNat ∈ [u] ∨ x.toNat ∈ [v]) := by
  unfold ax_spl at hq
  split at hq
  · cases hq
  · next a' ha =>
    split at hq
    · cases hq
    · next p hp =>
      cases hq
      have h1 : ∃ w, v_R ρ a w := by
        unfold ax_rcv at ha
        split at ha
        · exact s_R_at hs ha
        · exact s_R_at hs ha
        · split at ha
          · exact s_R_at hs ha
          · cases ha
        · cases ha
      obtain ⟨w, h1⟩ := h1
      unfold ax_two at hp
      split at hp
      · next u' v' he =>
        cases hp
        obtain ⟨x, rfl, h2, h3, -⟩ := er_set_ok hb h1 (by rw [he]; exact fun e => by cases e)
        rw [he] at h2
        refine ⟨_, h3, ?_⟩
        rcases List.mem_cons.mp h2 with e | e
        · exact Or.inl (List.mem_singleton.mpr e)
        · exact Or.inr e
      · cases hp
/-- KT: the contracts of each method; none: its code is gone through in place -/
def ax (G : Nat → eE) (KT : Nat → List eK) (W DX : Nat) : Nat → Nat → Nat → Nat → Bool → eCT → eS → eRT → Bool
  | 0, _, _, _, _, _, _, _ => false
  | n + 1, j, μ, pc, first, cut, A, R => match (match first with
    | true => none
    | false => cut pc) with
    | some f => f A
    | none => match xe_look (xc μ) pc with
      | none => false
      | some q => match ax_spl q A with
        | some s => ax G KT W DX n j μ pc true cut (er_nar A s.1 [s.2.1]) R && ax G KT W DX n j μ pc true cut (er_nar A s.1 [s.2.2]) R
        | none => match px_kd q.1 q.2.2.1 with
          | 0 => match ah_0f q.1 G j q.2.2.1 q.2.2.2.1 A with
            | some A2 => xe_f (pc + q.2.1) (fun p => ax G KT W DX n j μ p false cut A2 R)
            | none => false
          | 1 => ah_1f q.1 pc A (fun t A2 => ax G KT W DX n j μ t false cut A2 R)
          | 2 => match ah_2f q.1 (xm μ).2.2.1 A with
            | some A2 => xe_f (pc + q.2.1) (fun p => ax G KT W DX n j μ p false cut A2 R)
            | none => false
          | 3 => match ah_cal q.1 q.2.2.1 q.2.2.2.1 A with
            | none => false
            | some w => if ea_d A j 1 && Nat.ble (es_sum w.2) 8 && Nat.ble (es_sum w.1) (xm q.2.2.2.1).2.2.1 && Nat.beq (xm q.2.2.2.1).2.2.2.2.1.1 0 && Nat.beq (xm q.2.2.2.1).2.2.2.2.1.2 0 then (match KT q.2.2.2.1 with
              | [] => ax G KT W DX n (j + 1) q.2.2.2.1 0 true (fun _ => none) (es_L A (ea_ar 0 w.1) []) (fun v A2 => xe_f (pc + 3) (fun p => ax G KT W DX n j μ p false cut (es_L A2 A.2.2.2.2.1 (match v with
                | none => w.2
                | some a => a :: w.2)) R))
              | k :: ks => ek_all G W (j + 1) q.2.2.2.1 (k :: ks) (ea_ar 0 w.1) A w.2 (fun A2 => xe_f (pc + 3) (fun p => ax G KT W DX n j μ p false cut A2 R))) else false
          | 4 => match ah_4f q.1 G W DX j q.2.2.1 q.2.2.2.1 A with
            | some A2 => xe_f (pc + q.2.1) (fun p => ax G KT W DX n j μ p false cut A2 R)
            | none => false
          | 5 => match ah_5f (xm μ).2.2.2.1 q.1 A with
            | some v => R v A
            | none => false
          | 7 => match ah_6f j q.2.2.1 A with
            | some A2 => xe_f (pc + 3) (fun p => ax G KT W DX n j μ p false cut A2 R)
            | none => false
          | _ => false
theorem ax_ok {c : eX} {KT : Nat → List eK} {DX : Nat} (hX : x_K c.2.1 DX) (hT : c.2.2.2.2 ≤ 1000000) (hK : ∀ d, d < c.2.2.2.2 → ∀ y, ∀ k ∈ KT y, k_S c.1 c.2.1 k d) : ∀ {n j μ pc : Nat} {first : Bool} {cut : eCT} {A : eS} {R : eRT}, ax c.1 KT c.2.2.2.1 DX n j μ pc first cut A R = true →
    ∀ (d : Nat) (lv : List (Nat × pv)) (st : List pv) (h : pH) (ρ : List Int) (P : Option pv × pH → Prop), r_R c ρ A lv st h → d + j = c.2.2.2.2 →
    (∀ (pc' : Nat) (f : eS → Bool) (A' : eS) (ρ' : List Int) (lv' : List (Nat × pv)) (st' : List pv) (h' : pH), cut pc' = some f → f A' = true → ρ <+: ρ' → r_R c ρ' A' lv' st' h' → t_X d μ pc' lv' st' h' P) →
    (∀ (v : Option eV) (A' : eS) (ρ' : List Int) (rv : Option pv) (h' : pH), R v A' = true → ρ <+: ρ' → b_R c ρ' A' h' → o_R ρ' v rv → P (rv, h')) → t_X d μ pc lv st h P
  | 0, _, _, _, _, _, _, _, hh => by cases hh
  | n + 1, j, μ, pc, first, cut, A, R, hh => by
    intro d lv st h ρ P hr hd hcut hret
    have next : ∀ {pc2 : Nat} {A2 : eS} {lv2 : List (Nat × pv)} {st2 : List pv} {h2 : pH} {ρ' : List Int}, ρ <+: ρ' → r_R c ρ' A2 lv2 st2 h2 → ax c.1 KT c.2.2.2.1 DX n j μ pc2 false cut A2 R = true → t_X d μ pc2 lv2 st2 h2 P := fun hp hr2 hk => ax_ok hX hT hK hk _ _ _ _ _ _ hr2 hd (fun pc' f A' ρ2 lv' st' h' q1 q2 q3 q4 => hcut pc' f A' ρ2 lv' st' h' q1 q2 (hp.trans q3) q4) (fun v A' ρ2 rv h' q1 q2 q3 q4 => hret v A' ρ2 rv h' q1 (hp.trans q2) q3 q4)
    unfold ax at hh
    split at hh
    · next f hf =>
      split at hf
      · cases hf
      · exact hcut pc f A ρ lv st h hf hh List.prefix_rfl hr
    · split at hh
      · cases hh
      · next q hq =>
        split at hh
        · next s hs =>
          obtain ⟨a, u, v⟩ := s
          rw [Bool.and_eq_true] at hh
          obtain ⟨x, h1, h2⟩ := ax_spl_ok hr.1 hr.2.2 hs
          rcases h2 with h2 | h2
          · obtain ⟨g1, g2⟩ := er_nar_ok hr.1 h1 h2
            exact ax_ok hX hT hK hh.1 _ _ _ _ _ _ (r_R_of g1 g2 hr.2.1 hr.2.2) hd hcut hret
          · obtain ⟨g1, g2⟩ := er_nar_ok hr.1 h1 h2
            exact ax_ok hX hT hK hh.2 _ _ _ _ _ _ (r_R_of g1 g2 hr.2.1 hr.2.2) hd hcut hret
        · split at hh
          · next hkd =>
            split at hh
            · next A2 hA =>
              rw [xe_f_eq] at hh
              obtain ⟨st2, ρ', g1, g2, g3⟩ := ah_0_ok hr hd hA
              exact t_0 hq hkd g1 (next g2 g3 hh)
            · cases hh
          · next hkd =>
            obtain ⟨t, A2, g1, g2, g3⟩ := ah_1_ok hr hh
            exact t_1 hq hkd g1 (next List.prefix_rfl g2 g3)
          · next hkd =>
            split at hh
            · next A2 hA =>
              rw [xe_f_eq] at hh
              obtain ⟨w, ρ', g1, g2, g3⟩ := ah_2_ok hr hA
              exact t_2 hq hkd g1 (next g2 g3 hh)
            · cases hh
          · next hkd =>
            split at hh
            · cases hh
            · next w hw =>
              obtain ⟨ar, g1, g2, g3⟩ := ah_cal_ok hr.1 hr.2.2 hw
              split at hh
              · next hc =>
                rw [Bool.and_eq_true, Bool.and_eq_true, Bool.and_eq_true, Bool.and_eq_true] at hc
                obtain ⟨⟨⟨⟨c1, c2⟩, c3⟩, c4⟩, c5⟩ := hc
                have d1 := ea_d_ok hr.1 hd c1
                have c2 : px_sum ar.2 ≤ 8 := by rw [es_sum_ok g3]; exact Nat.le_of_ble_eq_true c2
                have c3 : px_sum ar.1 ≤ (xm q.2.2.2.1).2.2.1 := by rw [es_sum_ok g2]; exact Nat.le_of_ble_eq_true c3
                have c6 : (xm q.2.2.2.1).2.2.2.2.1 = (0, 0) := Prod.ext (Nat.eq_of_beq_eq_true c4) (Nat.eq_of_beq_eq_true c5)
                refine t_3 hq hkd g1 ⟨d1, c2, c3, c6⟩ ?_
                split at hh
                · refine ax_ok hX hT hK hh (d - 1) _ _ _ _ _ ⟨hr.1, ea_ar_ok g2, trivial⟩ (by omega) (fun pc' f A' ρ' lv' st' h' q1 => by cases q1) (fun v A' ρ' rv h' q1 q2 q3 q4 => ?_)
                  rw [xe_f_eq] at q1
                  refine next (A2 := es_L A' A.2.2.2.2.1 (match (generalizing := false) v with
                    | none => w.2
                    | some a => a :: w.2)) q2 ⟨q3, l_R_mono q2 hr.2.1, ?_⟩ q1
                  match v, rv, q4 with
                  | none, _, q4 =>
                    have q4 : _ = none := q4
                    subst q4
                    exact s_R_mono q2 g3
                  | some a, _, q4 =>
                    obtain ⟨w', q5, q6⟩ := q4
                    subst q5
                    exact ⟨q6, s_R_mono q2 g3⟩
                · next k ks hks =>
                  obtain ⟨n1, o, o1, ρ', A', o2, o3, o4⟩ := ek_all_ok (d := d - 1) hr.1 hr.2.1 (ea_ar_ok g2) g3 (by omega) hT (fun k' hk' => hK (d - 1) (by omega) q.2.2.2.1 k' (by rw [hks]; exact hk')) hh
                  rw [xe_f_eq] at o4
                  exact ⟨n1, o, o1, next o2 o3 o4⟩
              · cases hh
          · next hkd =>
            split at hh
            · next A2 hA =>
              rw [xe_f_eq] at hh
              obtain ⟨w, g1, g2⟩ := ah_4_ok hX hd hr hA
              exact t_4 hq hkd g1 (next List.prefix_rfl g2 hh)
            · cases hh
          · next hkd =>
            split at hh
            · next v hv =>
              obtain ⟨r, g1, g2⟩ := ah_5_ok hr.1 hr.2.2 hv
              exact t_5 hq hkd g1 (hret v A ρ r h hh List.prefix_rfl hr.1 g2)
            · cases hh
          · next hkd =>
            split at hh
            · next A2 hA =>
              rw [xe_f_eq] at hh
              obtain ⟨st2, ρ', g1, g2, g3⟩ := ah_6_ok hr hd hA
              exact t_6 hq hkd g1 (next g2 g3 hh)
            · cases hh
          · cases hh
