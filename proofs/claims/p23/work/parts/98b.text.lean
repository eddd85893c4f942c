/-! the texts -/
def tx_t (i : Nat) : Term := .string "SlideNight$LawReader" (match i with
  | 0 => 56
  | 1 => 101
  | 2 => 117
  | 3 => 110
  | _ => 115)
theorem tb_in {i : Nat} {w : Cond} (h : tables_1[i]? = some w) : w ∈ lw_tbl := List.mem_append_right _ (List.mem_of_getElem? h)
set_option maxHeartbeats 8000000 in
theorem tx_ok {b : Nat} {s : State} {A : Nat → Prop} (hts : ∀ w ∈ lw_tbl, w.before #[Value.ref b] s = true) (hgv : (Jvm.Cond.and given_1 narrow_1).before #[Value.ref b] s = true) (hA : ∀ a : Nat, a < s.heap.size → ¬ A a) : ∃ adK : Nat → Nat, ∀ ad : Nat → Nat, (∀ i, i < 5 → ad (1001 + i) = adK i) → pT ad A s s.heap := by
  have hs := flat_of_before _ hgv
  obtain ⟨adK, adV, hS, hev⟩ := vk_Sof (args := #[Value.ref b]) (s := s) (N := 5) (tm := tx_t) (len := js_len) (byt := js_by) (A := A) (by decide +kernel)
    (fun i hi => match i, hi with
      | 0, _ => (hs (.exactly (.string "SlideNight$LawReader" 56) "java/lang/String") (by decide +kernel))
      | 1, _ => (hs (.exactly (.string "SlideNight$LawReader" 101) "java/lang/String") (by decide +kernel))
      | 2, _ => (hs (.exactly (.string "SlideNight$LawReader" 117) "java/lang/String") (by decide +kernel))
      | 3, _ => (hs (.exactly (.string "SlideNight$LawReader" 110) "java/lang/String") (by decide +kernel))
      | 4, _ => (hs (.exactly (.string "SlideNight$LawReader" 115) "java/lang/String") (by decide +kernel))
      | n + 5, h => absurd h (by omega))
    (fun i hi => match i, hi with
      | 0, _ => (hs (.eq (.field (.string "SlideNight$LawReader" 56) "java/lang/String" "coder" "B") (.int 0)) (by decide +kernel))
      | 1, _ => (hs (.eq (.field (.string "SlideNight$LawReader" 101) "java/lang/String" "coder" "B") (.int 0)) (by decide +kernel))
      | 2, _ => (hs (.eq (.field (.string "SlideNight$LawReader" 117) "java/lang/String" "coder" "B") (.int 0)) (by decide +kernel))
      | 3, _ => (hs (.eq (.field (.string "SlideNight$LawReader" 110) "java/lang/String" "coder" "B") (.int 0)) (by decide +kernel))
      | 4, _ => (hs (.eq (.field (.string "SlideNight$LawReader" 115) "java/lang/String" "coder" "B") (.int 0)) (by decide +kernel))
      | n + 5, h => absurd h (by omega))
    (fun i hi => match i, hi with
      | 0, _ => (hs (.arrayOf (.field (.string "SlideNight$LawReader" 56) "java/lang/String" "value" "[B") .byte) (by decide +kernel))
      | 1, _ => (hs (.arrayOf (.field (.string "SlideNight$LawReader" 101) "java/lang/String" "value" "[B") .byte) (by decide +kernel))
      | 2, _ => (hs (.arrayOf (.field (.string "SlideNight$LawReader" 117) "java/lang/String" "value" "[B") .byte) (by decide +kernel))
      | 3, _ => (hs (.arrayOf (.field (.string "SlideNight$LawReader" 110) "java/lang/String" "value" "[B") .byte) (by decide +kernel))
      | 4, _ => (hs (.arrayOf (.field (.string "SlideNight$LawReader" 115) "java/lang/String" "value" "[B") .byte) (by decide +kernel))
      | n + 5, h => absurd h (by omega))
    (fun i hi => match i, hi with
      | 0, _ => (hs (.eq (.length (.field (.string "SlideNight$LawReader" 56) "java/lang/String" "value" "[B")) (.int 8)) (by decide +kernel))
      | 1, _ => (hs (.eq (.length (.field (.string "SlideNight$LawReader" 101) "java/lang/String" "value" "[B")) (.int 3)) (by decide +kernel))
      | 2, _ => (hs (.eq (.length (.field (.string "SlideNight$LawReader" 117) "java/lang/String" "value" "[B")) (.int 11)) (by decide +kernel))
      | 3, _ => (hs (.eq (.length (.field (.string "SlideNight$LawReader" 110) "java/lang/String" "value" "[B")) (.int 2)) (by decide +kernel))
      | 4, _ => (hs (.eq (.length (.field (.string "SlideNight$LawReader" 115) "java/lang/String" "value" "[B")) (.int 3)) (by decide +kernel))
      | n + 5, h => absurd h (by omega))
    (fun i hi => match i, hi with
      | 0, _ => fun j hj => match j, hj with
        | 0, _ => (hs (.eq (.elem (.field (.string "SlideNight$LawReader" 56) "java/lang/String" "value" "[B") (.int 0)) (.int 119)) (by decide +kernel))
        | 1, _ => (hs (.eq (.elem (.field (.string "SlideNight$LawReader" 56) "java/lang/String" "value" "[B") (.int 1)) (.int 110)) (by decide +kernel))
        | 2, _ => (hs (.eq (.elem (.field (.string "SlideNight$LawReader" 56) "java/lang/String" "value" "[B") (.int 2)) (.int 115)) (by decide +kernel))
        | 3, _ => (hs (.eq (.elem (.field (.string "SlideNight$LawReader" 56) "java/lang/String" "value" "[B") (.int 3)) (.int 116)) (by decide +kernel))
        | 4, _ => (hs (.eq (.elem (.field (.string "SlideNight$LawReader" 56) "java/lang/String" "value" "[B") (.int 4)) (.int 106)) (by decide +kernel))
        | 5, _ => (hs (.eq (.elem (.field (.string "SlideNight$LawReader" 56) "java/lang/String" "value" "[B") (.int 5)) (.int 120)) (by decide +kernel))
        | 6, _ => (hs (.eq (.elem (.field (.string "SlideNight$LawReader" 56) "java/lang/String" "value" "[B") (.int 6)) (.int 112)) (by decide +kernel))
        | 7, _ => (hs (.eq (.elem (.field (.string "SlideNight$LawReader" 56) "java/lang/String" "value" "[B") (.int 7)) (.int 98)) (by decide +kernel))
        | n + 8, h => absurd (show n + 8 < 8 from h) (by omega)
      | 1, _ => fun j hj => match j, hj with
        | 0, _ => (hs (.eq (.elem (.field (.string "SlideNight$LawReader" 101) "java/lang/String" "value" "[B") (.int 0)) (.int 60)) (by decide +kernel))
        | 1, _ => (hs (.eq (.elem (.field (.string "SlideNight$LawReader" 101) "java/lang/String" "value" "[B") (.int 1)) (.int 62)) (by decide +kernel))
        | 2, _ => (hs (.eq (.elem (.field (.string "SlideNight$LawReader" 101) "java/lang/String" "value" "[B") (.int 2)) (.int 61)) (by decide +kernel))
        | n + 3, h => absurd (show n + 3 < 3 from h) (by omega)
      | 2, _ => fun j hj => match j, hj with
        | 0, _ => (hs (.eq (.elem (.field (.string "SlideNight$LawReader" 117) "java/lang/String" "value" "[B") (.int 0)) (.int 105)) (by decide +kernel))
        | 1, _ => (hs (.eq (.elem (.field (.string "SlideNight$LawReader" 117) "java/lang/String" "value" "[B") (.int 1)) (.int 107)) (by decide +kernel))
        | 2, _ => (hs (.eq (.elem (.field (.string "SlideNight$LawReader" 117) "java/lang/String" "value" "[B") (.int 2)) (.int 97)) (by decide +kernel))
        | 3, _ => (hs (.eq (.elem (.field (.string "SlideNight$LawReader" 117) "java/lang/String" "value" "[B") (.int 3)) (.int 121)) (by decide +kernel))
        | 4, _ => (hs (.eq (.elem (.field (.string "SlideNight$LawReader" 117) "java/lang/String" "value" "[B") (.int 4)) (.int 113)) (by decide +kernel))
        | 5, _ => (hs (.eq (.elem (.field (.string "SlideNight$LawReader" 117) "java/lang/String" "value" "[B") (.int 5)) (.int 109)) (by decide +kernel))
        | 6, _ => (hs (.eq (.elem (.field (.string "SlideNight$LawReader" 117) "java/lang/String" "value" "[B") (.int 6)) (.int 111)) (by decide +kernel))
        | 7, _ => (hs (.eq (.elem (.field (.string "SlideNight$LawReader" 117) "java/lang/String" "value" "[B") (.int 7)) (.int 118)) (by decide +kernel))
        | 8, _ => (hs (.eq (.elem (.field (.string "SlideNight$LawReader" 117) "java/lang/String" "value" "[B") (.int 8)) (.int 108)) (by decide +kernel))
        | 9, _ => (hs (.eq (.elem (.field (.string "SlideNight$LawReader" 117) "java/lang/String" "value" "[B") (.int 9)) (.int 101)) (by decide +kernel))
        | 10, _ => (hs (.eq (.elem (.field (.string "SlideNight$LawReader" 117) "java/lang/String" "value" "[B") (.int 10)) (.int 122)) (by decide +kernel))
        | n + 11, h => absurd (show n + 11 < 11 from h) (by omega)
      | 3, _ => fun j hj => match j, hj with
        | 0, _ => (hs (.eq (.elem (.field (.string "SlideNight$LawReader" 110) "java/lang/String" "value" "[B") (.int 0)) (.int 43)) (by decide +kernel))
        | 1, _ => (hs (.eq (.elem (.field (.string "SlideNight$LawReader" 110) "java/lang/String" "value" "[B") (.int 1)) (.int 45)) (by decide +kernel))
        | n + 2, h => absurd (show n + 2 < 2 from h) (by omega)
      | 4, _ => fun j hj => match j, hj with
        | 0, _ => (hs (.eq (.elem (.field (.string "SlideNight$LawReader" 115) "java/lang/String" "value" "[B") (.int 0)) (.int 42)) (by decide +kernel))
        | 1, _ => (hs (.eq (.elem (.field (.string "SlideNight$LawReader" 115) "java/lang/String" "value" "[B") (.int 1)) (.int 47)) (by decide +kernel))
        | 2, _ => (hs (.eq (.elem (.field (.string "SlideNight$LawReader" 115) "java/lang/String" "value" "[B") (.int 2)) (.int 37)) (by decide +kernel))
        | n + 3, h => absurd (show n + 3 < 3 from h) (by omega)
      | n + 5, h => absurd h (by omega))
    (fun i j hi hj hne => match i, j, hi, hj, hne with
      | 0, 0, _, _, h => absurd rfl h
      | 0, 1, _, _, _ => Or.inl (hs (.not (.eq (.string "SlideNight$LawReader" 56) (.string "SlideNight$LawReader" 101))) (by decide +kernel))
      | 0, 2, _, _, _ => Or.inl (hs (.not (.eq (.string "SlideNight$LawReader" 56) (.string "SlideNight$LawReader" 117))) (by decide +kernel))
      | 0, 3, _, _, _ => Or.inl (hs (.not (.eq (.string "SlideNight$LawReader" 56) (.string "SlideNight$LawReader" 110))) (by decide +kernel))
      | 0, 4, _, _, _ => Or.inl (hs (.not (.eq (.string "SlideNight$LawReader" 56) (.string "SlideNight$LawReader" 115))) (by decide +kernel))
      | 1, 0, _, _, _ => Or.inr (hs (.not (.eq (.string "SlideNight$LawReader" 56) (.string "SlideNight$LawReader" 101))) (by decide +kernel))
      | 1, 1, _, _, h => absurd rfl h
      | 1, 2, _, _, _ => Or.inr (hs (.not (.eq (.string "SlideNight$LawReader" 117) (.string "SlideNight$LawReader" 101))) (by decide +kernel))
      | 1, 3, _, _, _ => Or.inr (hs (.not (.eq (.string "SlideNight$LawReader" 110) (.string "SlideNight$LawReader" 101))) (by decide +kernel))
      | 1, 4, _, _, _ => Or.inr (hs (.not (.eq (.string "SlideNight$LawReader" 115) (.string "SlideNight$LawReader" 101))) (by decide +kernel))
      | 2, 0, _, _, _ => Or.inr (hs (.not (.eq (.string "SlideNight$LawReader" 56) (.string "SlideNight$LawReader" 117))) (by decide +kernel))
      | 2, 1, _, _, _ => Or.inl (hs (.not (.eq (.string "SlideNight$LawReader" 117) (.string "SlideNight$LawReader" 101))) (by decide +kernel))
      | 2, 2, _, _, h => absurd rfl h
      | 2, 3, _, _, _ => Or.inl (hs (.not (.eq (.string "SlideNight$LawReader" 117) (.string "SlideNight$LawReader" 110))) (by decide +kernel))
      | 2, 4, _, _, _ => Or.inl (hs (.not (.eq (.string "SlideNight$LawReader" 117) (.string "SlideNight$LawReader" 115))) (by decide +kernel))
      | 3, 0, _, _, _ => Or.inr (hs (.not (.eq (.string "SlideNight$LawReader" 56) (.string "SlideNight$LawReader" 110))) (by decide +kernel))
      | 3, 1, _, _, _ => Or.inl (hs (.not (.eq (.string "SlideNight$LawReader" 110) (.string "SlideNight$LawReader" 101))) (by decide +kernel))
      | 3, 2, _, _, _ => Or.inr (hs (.not (.eq (.string "SlideNight$LawReader" 117) (.string "SlideNight$LawReader" 110))) (by decide +kernel))
      | 3, 3, _, _, h => absurd rfl h
      | 3, 4, _, _, _ => Or.inr (hs (.not (.eq (.string "SlideNight$LawReader" 115) (.string "SlideNight$LawReader" 110))) (by decide +kernel))
      | 4, 0, _, _, _ => Or.inr (hs (.not (.eq (.string "SlideNight$LawReader" 56) (.string "SlideNight$LawReader" 115))) (by decide +kernel))
      | 4, 1, _, _, _ => Or.inl (hs (.not (.eq (.string "SlideNight$LawReader" 115) (.string "SlideNight$LawReader" 101))) (by decide +kernel))
      | 4, 2, _, _, _ => Or.inr (hs (.not (.eq (.string "SlideNight$LawReader" 117) (.string "SlideNight$LawReader" 115))) (by decide +kernel))
      | 4, 3, _, _, _ => Or.inl (hs (.not (.eq (.string "SlideNight$LawReader" 115) (.string "SlideNight$LawReader" 110))) (by decide +kernel))
      | 4, 4, _, _, h => absurd rfl h
      | n + 5, _, h, _, _ => absurd h (by omega)
      | _, n + 5, _, h, _ => absurd h (by omega)) hA
  refine ⟨adK, fun ad had => ⟨⟨adV, ?_⟩, fun y t ht => ?_, ?_⟩⟩
  · exact ⟨fun i hi => by dsimp only; rw [had i hi]; exact hS.1 i hi, fun i j hi hj e => hS.2 i j hi hj (by rw [← had i hi, ← had j hj]; exact e)⟩
  · have hy : y < 5 := (List.getElem?_eq_some_iff.mp ht).1
    have h2 := hev y hy
    rw [← had y hy] at h2
    match y, hy, ht, h2 with
    | 0, _, ht, h2 => cases ht; exact vk_R.of (hts _ (tb_in (i := 605) (by decide +kernel))) h2
    | 1, _, ht, h2 => cases ht; exact vk_R.of (hts _ (tb_in (i := 752) (by decide +kernel))) h2
    | 2, _, ht, h2 => cases ht; exact vk_R.of (hts _ (tb_in (i := 708) (by decide +kernel))) h2
    | 3, _, ht, h2 => cases ht; exact vk_R.of (hts _ (tb_in (i := 731) (by decide +kernel))) h2
    | 4, _, ht, h2 => cases ht; exact vk_R.of (hts _ (tb_in (i := 726) (by decide +kernel))) h2
    | n + 5, h, _, _ => exact absurd h (by omega)
  · exact va_Zof (hts _ (tb_in (i := 619) (by decide +kernel))) (hts _ (tb_in (i := 16) (by decide +kernel))) (va_eqt (hs _ (by decide +kernel))) hA
