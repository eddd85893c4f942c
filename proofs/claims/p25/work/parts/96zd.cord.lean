/-! orders of the class, exactly: which says most (printed by wip/e2/x3.py) -/
theorem oft_0 : xe_look (xc 63) 0 = some (.aload_n 0, 1, 0, 0, 0) := by decide +kernel
theorem oft_1 : xe_look (xc 63) 1 = some (.invokevirtual 74, 3, 0, 60, 885) := by decide +kernel
theorem oft_4 : xe_look (xc 63) 4 = some (.istore_n 1, 1, 0, 0, 0) := by decide +kernel
theorem oft_5 : xe_look (xc 63) 5 = some (.aload_n 0, 1, 0, 0, 0) := by decide +kernel
theorem oft_6 : xe_look (xc 63) 6 = some (.iconst 0, 1, 0, 0, 0) := by decide +kernel
theorem oft_7 : xe_look (xc 63) 7 = some (.putfield 78, 3, 5, 2, 888) := by decide +kernel
theorem oft_10 : xe_look (xc 63) 10 = some (.aload_n 0, 1, 0, 0, 0) := by decide +kernel
theorem oft_11 : xe_look (xc 63) 11 = some (.iconst (-1), 1, 0, 0, 0) := by decide +kernel
theorem oft_12 : xe_look (xc 63) 12 = some (.putfield 81, 3, 5, 0, 889) := by decide +kernel
theorem oft_15 : xe_look (xc 63) 15 = some (.aload_n 0, 1, 0, 0, 0) := by decide +kernel
theorem oft_16 : xe_look (xc 63) 16 = some (.iconst (-1), 1, 0, 0, 0) := by decide +kernel
theorem oft_17 : xe_look (xc 63) 17 = some (.putfield 84, 3, 5, 1, 890) := by decide +kernel
theorem oft_20 : xe_look (xc 63) 20 = some (.iload_n 1, 1, 0, 0, 0) := by decide +kernel
theorem oft_21 : xe_look (xc 63) 21 = some (.ifCond .ne 4, 3, 0, 0, 0) := by decide +kernel
theorem oft_24 : xe_look (xc 63) 24 = some (.return_, 1, 0, 0, 0) := by decide +kernel
theorem oft_25 : xe_look (xc 63) 25 = some (.aload_n 0, 1, 0, 0, 0) := by decide +kernel
theorem oft_26 : xe_look (xc 63) 26 = some (.invokevirtual 87, 3, 0, 61, 891) := by decide +kernel
theorem oft_29 : xe_look (xc 63) 29 = some (.aload_n 0, 1, 0, 0, 0) := by decide +kernel
theorem oft_30 : xe_look (xc 63) 30 = some (.invokevirtual 90, 3, 0, 62, 892) := by decide +kernel
theorem oft_33 : xe_look (xc 63) 33 = some (.iconst 0, 1, 0, 0, 0) := by decide +kernel
theorem oft_34 : xe_look (xc 63) 34 = some (.istore_n 2, 1, 0, 0, 0) := by decide +kernel
theorem oft_35 : xe_look (xc 63) 35 = some (.iload_n 2, 1, 0, 0, 0) := by decide +kernel
theorem oft_36 : xe_look (xc 63) 36 = some (.aload_n 0, 1, 0, 0, 0) := by decide +kernel
theorem oft_37 : xe_look (xc 63) 37 = some (.getfield 42, 3, 5, 3, 880) := by decide +kernel
theorem oft_40 : xe_look (xc 63) 40 = some (.if_icmp .ge 86, 3, 0, 0, 0) := by decide +kernel
theorem oft_43 : xe_look (xc 63) 43 = some (.iload_n 2, 1, 0, 0, 0) := by decide +kernel
theorem oft_44 : xe_look (xc 63) 44 = some (.iconst 1, 1, 0, 0, 0) := by decide +kernel
theorem oft_45 : xe_look (xc 63) 45 = some (.iadd, 1, 0, 0, 0) := by decide +kernel
theorem oft_46 : xe_look (xc 63) 46 = some (.istore_n 3, 1, 0, 0, 0) := by decide +kernel
theorem oft_47 : xe_look (xc 63) 47 = some (.iload_n 3, 1, 0, 0, 0) := by decide +kernel
theorem oft_48 : xe_look (xc 63) 48 = some (.aload_n 0, 1, 0, 0, 0) := by decide +kernel
theorem oft_49 : xe_look (xc 63) 49 = some (.getfield 42, 3, 5, 3, 880) := by decide +kernel
theorem oft_52 : xe_look (xc 63) 52 = some (.if_icmp .ge 68, 3, 0, 0, 0) := by decide +kernel
theorem oft_55 : xe_look (xc 63) 55 = some (.aload_n 0, 1, 0, 0, 0) := by decide +kernel
theorem oft_56 : xe_look (xc 63) 56 = some (.getfield 27, 3, 5, 9, 881) := by decide +kernel
theorem oft_59 : xe_look (xc 63) 59 = some (.iload_n 2, 1, 0, 0, 0) := by decide +kernel
theorem oft_60 : xe_look (xc 63) 60 = some (.bipush 12, 2, 0, 0, 0) := by decide +kernel
theorem oft_62 : xe_look (xc 63) 62 = some (.imul, 1, 0, 0, 0) := by decide +kernel
theorem oft_63 : xe_look (xc 63) 63 = some (.iload_n 3, 1, 0, 0, 0) := by decide +kernel
theorem oft_64 : xe_look (xc 63) 64 = some (.iadd, 1, 0, 0, 0) := by decide +kernel
theorem oft_65 : xe_look (xc 63) 65 = some (.iaload, 1, 0, 0, 0) := by decide +kernel
theorem oft_66 : xe_look (xc 63) 66 = some (.istore 4, 2, 0, 0, 0) := by decide +kernel
theorem oft_68 : xe_look (xc 63) 68 = some (.iload 4, 2, 0, 0, 0) := by decide +kernel
theorem oft_70 : xe_look (xc 63) 70 = some (.iload_n 1, 1, 0, 0, 0) := by decide +kernel
theorem oft_71 : xe_look (xc 63) 71 = some (.iload 4, 2, 0, 0, 0) := by decide +kernel
theorem oft_73 : xe_look (xc 63) 73 = some (.isub, 1, 0, 0, 0) := by decide +kernel
theorem oft_74 : xe_look (xc 63) 74 = some (.invokestatic 93, 3, 3, 0, 893) := by decide +kernel
theorem oft_77 : xe_look (xc 63) 77 = some (.istore 5, 2, 0, 0, 0) := by decide +kernel
theorem oft_79 : xe_look (xc 63) 79 = some (.iload 5, 2, 0, 0, 0) := by decide +kernel
theorem oft_81 : xe_look (xc 63) 81 = some (.aload_n 0, 1, 0, 0, 0) := by decide +kernel
theorem oft_82 : xe_look (xc 63) 82 = some (.getfield 78, 3, 5, 2, 888) := by decide +kernel
theorem oft_85 : xe_look (xc 63) 85 = some (.if_icmp .le 29, 3, 0, 0, 0) := by decide +kernel
theorem oft_88 : xe_look (xc 63) 88 = some (.aload_n 0, 1, 0, 0, 0) := by decide +kernel
theorem oft_89 : xe_look (xc 63) 89 = some (.iload 5, 2, 0, 0, 0) := by decide +kernel
theorem oft_91 : xe_look (xc 63) 91 = some (.putfield 78, 3, 5, 2, 888) := by decide +kernel
theorem oft_94 : xe_look (xc 63) 94 = some (.aload_n 0, 1, 0, 0, 0) := by decide +kernel
theorem oft_95 : xe_look (xc 63) 95 = some (.aload_n 0, 1, 0, 0, 0) := by decide +kernel
theorem oft_96 : xe_look (xc 63) 96 = some (.getfield 9, 3, 5, 4, 894) := by decide +kernel
theorem oft_99 : xe_look (xc 63) 99 = some (.iload_n 2, 1, 0, 0, 0) := by decide +kernel
theorem oft_100 : xe_look (xc 63) 100 = some (.iaload, 1, 0, 0, 0) := by decide +kernel
theorem oft_101 : xe_look (xc 63) 101 = some (.putfield 81, 3, 5, 0, 889) := by decide +kernel
theorem oft_104 : xe_look (xc 63) 104 = some (.aload_n 0, 1, 0, 0, 0) := by decide +kernel
theorem oft_105 : xe_look (xc 63) 105 = some (.aload_n 0, 1, 0, 0, 0) := by decide +kernel
theorem oft_106 : xe_look (xc 63) 106 = some (.getfield 9, 3, 5, 4, 894) := by decide +kernel
theorem oft_109 : xe_look (xc 63) 109 = some (.iload_n 3, 1, 0, 0, 0) := by decide +kernel
theorem oft_110 : xe_look (xc 63) 110 = some (.iaload, 1, 0, 0, 0) := by decide +kernel
theorem oft_111 : xe_look (xc 63) 111 = some (.putfield 84, 3, 5, 1, 890) := by decide +kernel
theorem oft_114 : xe_look (xc 63) 114 = some (.iinc 3 1, 3, 0, 0, 0) := by decide +kernel
theorem oft_117 : xe_look (xc 63) 117 = some (.goto (-70), 3, 0, 0, 0) := by decide +kernel
theorem oft_120 : xe_look (xc 63) 120 = some (.iinc 2 1, 3, 0, 0, 0) := by decide +kernel
theorem oft_123 : xe_look (xc 63) 123 = some (.goto (-88), 3, 0, 0, 0) := by decide +kernel
theorem oft_126 : xe_look (xc 63) 126 = some (.return_, 1, 0, 0, 0) := by decide +kernel
/-- the scan for the two of which the lesser count is most -/
def ol (all x : Int) : Int := if x < all - x then x else all - x
def oM (f : Nat → Nat → Int) (all : Int) (st : Int × Int × Int) (a b : Nat) : Int × Int × Int := if st.1 < ol all (f a b) then (ol all (f a b), (a : Int), (b : Int)) else st
def oMi (f : Nat → Nat → Int) (all : Int) (a : Nat) (st : Int × Int × Int) : Nat → Int × Int × Int
  | 0 => st
  | j + 1 => oM f all (oMi f all a st j) a (a + 1 + j)
def oMo (f : Nat → Nat → Int) (all : Int) (n : Nat) : Nat → Int × Int × Int
  | 0 => (0, -1, -1)
  | i + 1 => oMi f all i (oMo f all n i) (n - (i + 1))
/-- what the scan keeps -/
def oK (n : Nat) (st : Int × Int × Int) : Prop := (st = (0, -1, -1)) ∨ (0 < st.1 ∧ 0 ≤ st.2.1 ∧ st.2.1 < n ∧ 0 ≤ st.2.2 ∧ st.2.2 < n)
theorem oM_k {f : Nat → Nat → Int} {all : Int} {n a b : Nat} (ha : a < n) (hb : b < n) {st : Int × Int × Int} (h : oK n st) : oK n (oM f all st a b) := by
  unfold oM
  by_cases q : st.1 < ol all (f a b)
  · rw [if_pos q]
    refine Or.inr ⟨?_, by show (0 : Int) ≤ (a : Int); omega, by show (a : Int) < n; omega, by show (0 : Int) ≤ (b : Int); omega, by show (b : Int) < n; omega⟩
    show 0 < ol all (f a b)
    rcases h with h | h
    · rw [h] at q
      exact q
    · omega
  · rw [if_neg q]
    exact h
theorem oMi_k {f : Nat → Nat → Int} {all : Int} {n a : Nat} (ha : a < n) {st : Int × Int × Int} (h : oK n st) : ∀ {j : Nat}, a + 1 + j ≤ n → oK n (oMi f all a st j)
  | 0, _ => h
  | j + 1, hj => oM_k ha (by omega) (oMi_k ha h (j := j) (by omega))
theorem oMo_k {f : Nat → Nat → Int} {all : Int} {n : Nat} : ∀ {i : Nat}, i ≤ n → oK n (oMo f all n i)
  | 0, _ => Or.inl rfl
  | i + 1, hi => oMi_k (by omega) (oMo_k (i := i) (by omega)) (by omega)
theorem oM_z {f : Nat → Nat → Int} {a b : Nat} (h : 0 ≤ f a b) : oM f 0 (0, -1, -1) a b = (0, -1, -1) := by
  unfold oM ol
  refine if_neg (fun z => ?_)
  have z : (0 : Int) < (if f a b < 0 - f a b then f a b else 0 - f a b) := z
  by_cases q : f a b < 0 - f a b
  · rw [if_pos q] at z; omega
  · rw [if_neg q] at z; omega
theorem oMi_z {f : Nat → Nat → Int} (h : ∀ a b, 0 ≤ f a b) {a : Nat} : ∀ {j : Nat}, oMi f 0 a (0, -1, -1) j = (0, -1, -1)
  | 0 => rfl
  | j + 1 => by
    show oM f 0 (oMi f 0 a (0, -1, -1) j) a (a + 1 + j) = _
    rw [oMi_z h (j := j)]
    exact oM_z (h _ _)
theorem oMo_z {f : Nat → Nat → Int} (h : ∀ a b, 0 ≤ f a b) {n : Nat} : ∀ {i : Nat}, oMo f 0 n i = (0, -1, -1)
  | 0 => rfl
  | i + 1 => by
    show oMi f 0 i (oMo f 0 n i) (n - (i + 1)) = _
    rw [oMo_z h (i := i)]
    exact oMi_z h
def oNm (nu : tC) (i : Int) : Int := if i = -1 then -1 else nu i.toNat
theorem oNm_n {nu : tC} {a : Nat} : oNm nu (a : Int) = nu a := if_neg (by omega)
/-- how many have a ahead of b -/
def oR (A : Nat → Nat) (N a b : Nat) : Int := oF (oA A a b) N 0
theorem ogu_190 : eG (cn 190) = (0, 31, []) := by decide +kernel
theorem ogy_189_0 : eG (cn 189 + 0) = ((-1), 31, []) := by decide +kernel
theorem ogy_189_1 : eG (cn 189 + 1) = ((-1), 31, []) := by decide +kernel
theorem ogy_189_2 : eG (cn 189 + 2) = (0, 2147483647, []) := by decide +kernel
theorem och_189_4 : (eG (cn 189 + 4)).2.2 = [191] := by decide +kernel
theorem ocq_189_4 {d i : Nat} {lv : List (Nat × pv)} {r : List pv} {g : pH} (hG : g_I eG g) : px_push eL d none (.getfield i) 5 4 lv (pvR 189 :: r) g = some (pvR 190 :: r) := pget oeo_189 (gI_r (r := 190) hG oeo_189 (Nat.le_of_ble_eq_true rfl) (y := 4) rfl och_189_4)
theorem oez_190 : eL[190]? = some (1, 12) := by decide +kernel
theorem wt_jO_189_0 : jO.testBit (cn 189 + 0) = true := by decide +kernel
theorem wt_jO_189_1 : jO.testBit (cn 189 + 1) = true := by decide +kernel
theorem wt_jO_189_2 : jO.testBit (cn 189 + 2) = true := by decide +kernel
set_option maxHeartbeats 2000000 in
theorem oftL3 {d N : Nat} (hd : 1 ≤ d) (hN : N ≤ 12) {A : Nat → Nat} {all : Int} (hall : 0 ≤ all ∧ all ≤ 479001600) {g0 : pH} {nu pl ah wf wl la : tC} (hla : ∀ x y : Nat, x < y → y < N → la (12 * x + y) = oR A N x y) {P : Option pv × pH → Prop} {a : Nat} (ha : a < N) {st0 : Int × Int × Int} (hC : ∀ (g : pH) (st : Int × Int × Int), st = oMi (oR A N) all a st0 (N - (a + 1)) → oE g0 g (oNm nu st.2.1) (oNm nu st.2.2) st.1 N nu pl ah wf wl la → ∀ {lv : List (Nat × pv)}, px_lg lv 0 = some (pvR 189) → px_lg lv 1 = some (oI all) → px_lg lv 2 = some (oI (a : Int)) → t_X d 63 120 lv [] g P) : ∀ (m b : Nat) (st : Int × Int × Int) (g : pH), N - b ≤ m → a < b → b ≤ N → st = oMi (oR A N) all a st0 (b - (a + 1)) → oE g0 g (oNm nu st.2.1) (oNm nu st.2.2) st.1 N nu pl ah wf wl la → ∀ {lv : List (Nat × pv)}, px_lg lv 0 = some (pvR 189) → px_lg lv 1 = some (oI all) → px_lg lv 2 = some (oI (a : Int)) → px_lg lv 3 = some (oI (b : Int)) → t_X d 63 47 lv [] g P := by
  intro m
  induction m with
  | zero =>
    intro b st g hm hab hb hst hS lv l0 l1 l2 l3
    refine t_0 oft_47 rfl (ld_i l3) ?_
    refine t_0 oft_48 rfl (ld_a l0) ?_
    refine t_0 oft_49 rfl (pq_cv oeo_189 rfl (show cF g 189 3 = (N : Int) from S_f hS 3 (Nat.le_of_ble_eq_true rfl))) ?_
    show t_X d 63 52 lv [oI ((N : Int)), oI ((b : Int))] g P
    refine tb_ge oft_52 (by decide) ⟨by omega, by omega⟩ ⟨by omega, by omega⟩ (fun c1 => ?_) (fun c1 => absurd c1 (by omega))
    show t_X d 63 120 lv [] g P
    exact hC _ _ (by rw [hst, show b = N by omega]) hS l0 l1 l2
  | succ m ih =>
    intro b st g hm hab hb hst hS lv l0 l1 l2 l3
    have hst1 := cb_i (S_J hS).1 oeo_189 (y := 2) (Nat.le_of_ble_eq_true rfl) rfl ogy_189_2
    rw [show cF g 189 2 = st.1 from S_f hS 2 (Nat.le_of_ble_eq_true rfl)] at hst1
    by_cases hbN : b = N
    · refine t_0 oft_47 rfl (ld_i l3) ?_
      refine t_0 oft_48 rfl (ld_a l0) ?_
      refine t_0 oft_49 rfl (pq_cv oeo_189 rfl (show cF g 189 3 = (N : Int) from S_f hS 3 (Nat.le_of_ble_eq_true rfl))) ?_
      show t_X d 63 52 lv [oI ((N : Int)), oI ((b : Int))] g P
      refine tb_ge oft_52 (by decide) ⟨by omega, by omega⟩ ⟨by omega, by omega⟩ (fun c1 => ?_) (fun c1 => absurd c1 (by omega))
      show t_X d 63 120 lv [] g P
      exact hC _ _ (by rw [hst, show b = N by omega]) hS l0 l1 l2
    refine t_0 oft_47 rfl (ld_i l3) ?_
    refine t_0 oft_48 rfl (ld_a l0) ?_
    refine t_0 oft_49 rfl (pq_cv oeo_189 rfl (show cF g 189 3 = (N : Int) from S_f hS 3 (Nat.le_of_ble_eq_true rfl))) ?_
    show t_X d 63 52 lv [oI ((N : Int)), oI ((b : Int))] g P
    refine tb_ge oft_52 (by decide) ⟨by omega, by omega⟩ ⟨by omega, by omega⟩ (fun c1 => absurd c1 (by omega)) (fun c1 => ?_)
    show t_X d 63 55 lv [] g P
    refine t_0 oft_55 rfl (ld_a l0) ?_
    refine t_0 oft_56 rfl (ocq_189_9 (S_J hS).1) ?_
    show t_X d 63 59 lv [pvR 195] g P
    refine t_0 oft_59 rfl (ld_i l2) ?_
    refine t_0 oft_60 rfl (pq_b (by decide)) ?_
    refine t_0 oft_62 rfl pq_mul ?_
    refine t_0 oft_63 rfl (ld_i l3) ?_
    refine t_0 oft_64 rfl pq_add ?_
    have r2 := pb_a (S_J hS).1 oez_195 (j := (((a : Int) * 12) + (b : Int)).toNat) (by omega) ogu_195 (show fA g 195 = la from S_a hS 5 (Nat.le_of_ble_eq_true rfl))
    refine t_0 oft_65 rfl (pq_iv oez_195 rfl ⟨by omega, by omega⟩ (show fA g 195 = la from S_a hS 5 (Nat.le_of_ble_eq_true rfl))) ?_
    show t_X d 63 66 lv [oI (la ((((a : Int) * 12) + (b : Int)).toNat))] g P
    have el : la ((a : Int) * 12 + (b : Int)).toNat = oR A N a b := by rw [← hla a b (by omega) (by omega)]; congr 1; omega
    have hob := oF_b (A := oA A a b) (S := 0) hN
    replace hob : 0 ≤ oR A N a b ∧ oR A N a b ≤ 479001600 := hob
    rw [el]
    show t_X d 63 66 lv [oI (oR A N a b)] g P
    refine t_2 oft_66 rfl (w := (px_s1 lv 4 (oI (oR A N a b)), [])) rfl ?_
    replace l0 : px_lg (px_s1 lv 4 (oI (oR A N a b))) 0 = some (pvR 189) := s1_ne (by decide) (fun _ => rfl) l0
    replace l1 : px_lg (px_s1 lv 4 (oI (oR A N a b))) 1 = some (oI (all)) := s1_ne (by decide) (fun _ => rfl) l1
    replace l2 : px_lg (px_s1 lv 4 (oI (oR A N a b))) 2 = some (oI ((a : Int))) := s1_ne (by decide) (fun _ => rfl) l2
    replace l3 : px_lg (px_s1 lv 4 (oI (oR A N a b))) 3 = some (oI ((b : Int))) := s1_ne (by decide) (fun _ => rfl) l3
    have l4 : px_lg (px_s1 lv 4 (oI (oR A N a b))) 4 = some (oI (oR A N a b)) := s1_eq
    generalize px_s1 lv 4 (oI (oR A N a b)) = lv3 at l0 l1 l2 l3 l4 ⊢
    show t_X d 63 68 lv3 [] g P
    refine t_0 oft_68 rfl (ld_i l4) ?_
    refine t_0 oft_70 rfl (ld_i l1) ?_
    refine t_0 oft_71 rfl (ld_i l4) ?_
    refine t_0 oft_73 rfl pq_sub ?_
    refine t_0 oft_74 rfl (pq_mi (by omega) (Nat.le_of_ble_eq_true rfl) ⟨by omega, by omega⟩ ⟨by omega, by omega⟩) ?_
    rw [show (if (all - (oR A N a b)) < (oR A N a b) then (all - (oR A N a b)) else (oR A N a b)) = ol all (oR A N a b) from by unfold ol; by_cases q : oR A N a b < all - oR A N a b; { rw [if_pos q, if_neg (by omega)] }; { rw [if_neg q]; by_cases q2 : all - oR A N a b < oR A N a b; { rw [if_pos q2] }; { rw [if_neg q2]; omega } }]
    have hol : -479001600 ≤ ol all (oR A N a b) ∧ ol all (oR A N a b) ≤ 479001600 := by unfold ol; by_cases q : oR A N a b < all - oR A N a b; { rw [if_pos q]; omega }; { rw [if_neg q]; omega }
    show t_X d 63 77 lv3 [oI (ol all (oR A N a b))] g P
    refine t_2 oft_77 rfl (w := (px_s1 lv3 5 (oI (ol all (oR A N a b))), [])) rfl ?_
    replace l0 : px_lg (px_s1 lv3 5 (oI (ol all (oR A N a b)))) 0 = some (pvR 189) := s1_ne (by decide) (fun _ => rfl) l0
    replace l1 : px_lg (px_s1 lv3 5 (oI (ol all (oR A N a b)))) 1 = some (oI (all)) := s1_ne (by decide) (fun _ => rfl) l1
    replace l2 : px_lg (px_s1 lv3 5 (oI (ol all (oR A N a b)))) 2 = some (oI ((a : Int))) := s1_ne (by decide) (fun _ => rfl) l2
    replace l3 : px_lg (px_s1 lv3 5 (oI (ol all (oR A N a b)))) 3 = some (oI ((b : Int))) := s1_ne (by decide) (fun _ => rfl) l3
    replace l4 : px_lg (px_s1 lv3 5 (oI (ol all (oR A N a b)))) 4 = some (oI (oR A N a b)) := s1_ne (by decide) (fun _ => rfl) l4
    have l5 : px_lg (px_s1 lv3 5 (oI (ol all (oR A N a b)))) 5 = some (oI (ol all (oR A N a b))) := s1_eq
    generalize px_s1 lv3 5 (oI (ol all (oR A N a b))) = lv4 at l0 l1 l2 l3 l4 l5 ⊢
    show t_X d 63 79 lv4 [] g P
    refine t_0 oft_79 rfl (ld_i l5) ?_
    refine t_0 oft_81 rfl (ld_a l0) ?_
    refine t_0 oft_82 rfl (pq_cv oeo_189 rfl (show cF g 189 2 = st.1 from S_f hS 2 (Nat.le_of_ble_eq_true rfl))) ?_
    show t_X d 63 85 lv4 [oI (st.1), oI (ol all (oR A N a b))] g P
    refine tb_le oft_85 (by decide) ⟨by omega, by omega⟩ ⟨by omega, by omega⟩ (fun c5 => ?_) (fun c5 => ?_)
    · show t_X d 63 114 lv4 [] g P
      refine t_2 oft_114 rfl (w := (px_s1 lv4 3 (oI ((b : Int) + 1)), [])) (pq_inc l3 (by decide)) ?_
      replace l0 : px_lg (px_s1 lv4 3 (oI ((b : Int) + 1))) 0 = some (pvR 189) := s1_ne (by decide) (fun _ => rfl) l0
      replace l1 : px_lg (px_s1 lv4 3 (oI ((b : Int) + 1))) 1 = some (oI (all)) := s1_ne (by decide) (fun _ => rfl) l1
      replace l2 : px_lg (px_s1 lv4 3 (oI ((b : Int) + 1))) 2 = some (oI ((a : Int))) := s1_ne (by decide) (fun _ => rfl) l2
      replace l4 : px_lg (px_s1 lv4 3 (oI ((b : Int) + 1))) 4 = some (oI (oR A N a b)) := s1_ne (by decide) (fun _ => rfl) l4
      replace l5 : px_lg (px_s1 lv4 3 (oI ((b : Int) + 1))) 5 = some (oI (ol all (oR A N a b))) := s1_ne (by decide) (fun _ => rfl) l5
      have l3 : px_lg (px_s1 lv4 3 (oI ((b : Int) + 1))) 3 = some (oI ((b : Int) + 1)) := s1_eq
      generalize px_s1 lv4 3 (oI ((b : Int) + 1)) = lv6 at l0 l1 l2 l4 l5 l3 ⊢
      show t_X d 63 117 lv6 [] g P
      refine t_1 oft_117 rfl (pb_goto (pc := 117) (by decide)) ?_
      show t_X d 63 47 lv6 [] g P
      have eb : b + 1 - (a + 1) = (b - (a + 1)) + 1 := by omega
      have eo : oMi (oR A N) all a st0 (b + 1 - (a + 1)) = oM (oR A N) all st a b := by rw [eb, hst]; show oM _ _ _ a (a + 1 + (b - (a + 1))) = _; rw [show a + 1 + (b - (a + 1)) = b by omega]
      exact ih (b + 1) st _ (by omega) (by omega) (by omega) (by rw [eo]; exact (if_neg (by omega)).symm) hS l0 l1 l2 l3
    · show t_X d 63 88 lv4 [] g P
      refine t_0 oft_88 rfl (ld_a l0) ?_
      refine t_0 oft_89 rfl (ld_i l5) ?_
      refine ts_f (n := 2) rfl rfl (by decide) oft_91 rfl oeo_189 hS wt_jO_189_2 ogy_189_2 (by decide) ⟨by omega, by omega⟩ (fun g7 hS7 => ?_)
      replace hS7 : oE g0 g7 (oNm nu st.2.1) (oNm nu st.2.2) (ol all (oR A N a b)) (N : Int) nu pl ah wf wl la := hS7
      show t_X d 63 94 lv4 [] g7 P
      refine t_0 oft_94 rfl (ld_a l0) ?_
      refine t_0 oft_95 rfl (ld_a l0) ?_
      refine t_0 oft_96 rfl (ocq_189_4 (S_J hS7).1) ?_
      show t_X d 63 99 lv4 [pvR 190, pvR 189] g7 P
      refine t_0 oft_99 rfl (ld_i l2) ?_
      have r8 := pb_a (S_J hS7).1 oez_190 (j := (a : Int).toNat) (by omega) ogu_190 (show fA g7 190 = nu from S_a hS7 0 (Nat.le_of_ble_eq_true rfl))
      refine t_0 oft_100 rfl (pq_iv oez_190 rfl ⟨by omega, by omega⟩ (show fA g7 190 = nu from S_a hS7 0 (Nat.le_of_ble_eq_true rfl))) ?_
      show t_X d 63 101 lv4 [oI (nu ((a : Int).toNat)), pvR 189] g7 P
      refine ts_f (n := 0) rfl rfl (by decide) oft_101 rfl oeo_189 hS7 wt_jO_189_0 ogy_189_0 (by decide) ⟨by omega, by omega⟩ (fun g9 hS9 => ?_)
      replace hS9 : oE g0 g9 (nu ((a : Int).toNat)) (oNm nu st.2.2) (ol all (oR A N a b)) (N : Int) nu pl ah wf wl la := hS9
      show t_X d 63 104 lv4 [] g9 P
      refine t_0 oft_104 rfl (ld_a l0) ?_
      refine t_0 oft_105 rfl (ld_a l0) ?_
      refine t_0 oft_106 rfl (ocq_189_4 (S_J hS9).1) ?_
      show t_X d 63 109 lv4 [pvR 190, pvR 189] g9 P
      refine t_0 oft_109 rfl (ld_i l3) ?_
      have r10 := pb_a (S_J hS9).1 oez_190 (j := (b : Int).toNat) (by omega) ogu_190 (show fA g9 190 = nu from S_a hS9 0 (Nat.le_of_ble_eq_true rfl))
      refine t_0 oft_110 rfl (pq_iv oez_190 rfl ⟨by omega, by omega⟩ (show fA g9 190 = nu from S_a hS9 0 (Nat.le_of_ble_eq_true rfl))) ?_
      show t_X d 63 111 lv4 [oI (nu ((b : Int).toNat)), pvR 189] g9 P
      refine ts_f (n := 1) rfl rfl (by decide) oft_111 rfl oeo_189 hS9 wt_jO_189_1 ogy_189_1 (by decide) ⟨by omega, by omega⟩ (fun g11 hS11 => ?_)
      replace hS11 : oE g0 g11 (nu ((a : Int).toNat)) (nu ((b : Int).toNat)) (ol all (oR A N a b)) (N : Int) nu pl ah wf wl la := hS11
      show t_X d 63 114 lv4 [] g11 P
      refine t_2 oft_114 rfl (w := (px_s1 lv4 3 (oI ((b : Int) + 1)), [])) (pq_inc l3 (by decide)) ?_
      replace l0 : px_lg (px_s1 lv4 3 (oI ((b : Int) + 1))) 0 = some (pvR 189) := s1_ne (by decide) (fun _ => rfl) l0
      replace l1 : px_lg (px_s1 lv4 3 (oI ((b : Int) + 1))) 1 = some (oI (all)) := s1_ne (by decide) (fun _ => rfl) l1
      replace l2 : px_lg (px_s1 lv4 3 (oI ((b : Int) + 1))) 2 = some (oI ((a : Int))) := s1_ne (by decide) (fun _ => rfl) l2
      replace l4 : px_lg (px_s1 lv4 3 (oI ((b : Int) + 1))) 4 = some (oI (oR A N a b)) := s1_ne (by decide) (fun _ => rfl) l4
      replace l5 : px_lg (px_s1 lv4 3 (oI ((b : Int) + 1))) 5 = some (oI (ol all (oR A N a b))) := s1_ne (by decide) (fun _ => rfl) l5
      have l3 : px_lg (px_s1 lv4 3 (oI ((b : Int) + 1))) 3 = some (oI ((b : Int) + 1)) := s1_eq
      generalize px_s1 lv4 3 (oI ((b : Int) + 1)) = lv12 at l0 l1 l2 l4 l5 l3 ⊢
      show t_X d 63 117 lv12 [] g11 P
      refine t_1 oft_117 rfl (pb_goto (pc := 117) (by decide)) ?_
      show t_X d 63 47 lv12 [] g11 P
      have eb : b + 1 - (a + 1) = (b - (a + 1)) + 1 := by omega
      have eo : oMi (oR A N) all a st0 (b + 1 - (a + 1)) = oM (oR A N) all st a b := by rw [eb, hst]; show oM _ _ _ a (a + 1 + (b - (a + 1))) = _; rw [show a + 1 + (b - (a + 1)) = b by omega]
      refine ih (b + 1) (ol all (oR A N a b), (a : Int), (b : Int)) _ (by omega) (by omega) (by omega) (by rw [eo]; exact (if_pos (by omega)).symm) (by show oE g0 g11 (oNm nu (a : Int)) (oNm nu (b : Int)) (ol all (oR A N a b)) N nu pl ah wf wl la; rw [oNm_n, oNm_n]; exact hS11) l0 l1 l2 l3
set_option maxHeartbeats 2000000 in
theorem oftL2 {d N : Nat} (hd : 1 ≤ d) (hN : N ≤ 12) {A : Nat → Nat} {all : Int} (hall : 0 ≤ all ∧ all ≤ 479001600) {g0 : pH} {nu pl ah wf wl la : tC} (hla : ∀ x y : Nat, x < y → y < N → la (12 * x + y) = oR A N x y) {P : Option pv × pH → Prop} (hP : ∀ (g : pH) (st : Int × Int × Int), st = oMo (oR A N) all N N → oE g0 g (oNm nu st.2.1) (oNm nu st.2.2) st.1 N nu pl ah wf wl la → P (none, g)) : ∀ (m a : Nat) (st : Int × Int × Int) (g : pH), N - a ≤ m → a ≤ N → st = oMo (oR A N) all N a → oE g0 g (oNm nu st.2.1) (oNm nu st.2.2) st.1 N nu pl ah wf wl la → ∀ {lv : List (Nat × pv)}, px_lg lv 0 = some (pvR 189) → px_lg lv 1 = some (oI all) → px_lg lv 2 = some (oI (a : Int)) → t_X d 63 35 lv [] g P := by
  intro m
  induction m with
  | zero =>
    intro a st g hm ha hst hS lv l0 l1 l2
    refine t_0 oft_35 rfl (ld_i l2) ?_
    refine t_0 oft_36 rfl (ld_a l0) ?_
    refine t_0 oft_37 rfl (pq_cv oeo_189 rfl (show cF g 189 3 = (N : Int) from S_f hS 3 (Nat.le_of_ble_eq_true rfl))) ?_
    show t_X d 63 40 lv [oI ((N : Int)), oI ((a : Int))] g P
    refine tb_ge oft_40 (by decide) ⟨by omega, by omega⟩ ⟨by omega, by omega⟩ (fun c1 => ?_) (fun c1 => absurd c1 (by omega))
    show t_X d 63 126 lv [] g P
    refine t_5 oft_126 rfl rfl ?_
    exact hP _ _ (by rw [hst, show a = N by omega]) hS
  | succ m ih =>
    intro a st g hm ha hst hS lv l0 l1 l2
    by_cases haN : a = N
    · refine t_0 oft_35 rfl (ld_i l2) ?_
      refine t_0 oft_36 rfl (ld_a l0) ?_
      refine t_0 oft_37 rfl (pq_cv oeo_189 rfl (show cF g 189 3 = (N : Int) from S_f hS 3 (Nat.le_of_ble_eq_true rfl))) ?_
      show t_X d 63 40 lv [oI ((N : Int)), oI ((a : Int))] g P
      refine tb_ge oft_40 (by decide) ⟨by omega, by omega⟩ ⟨by omega, by omega⟩ (fun c1 => ?_) (fun c1 => absurd c1 (by omega))
      show t_X d 63 126 lv [] g P
      refine t_5 oft_126 rfl rfl ?_
      exact hP _ _ (by rw [hst, show a = N by omega]) hS
    refine t_0 oft_35 rfl (ld_i l2) ?_
    refine t_0 oft_36 rfl (ld_a l0) ?_
    refine t_0 oft_37 rfl (pq_cv oeo_189 rfl (show cF g 189 3 = (N : Int) from S_f hS 3 (Nat.le_of_ble_eq_true rfl))) ?_
    show t_X d 63 40 lv [oI ((N : Int)), oI ((a : Int))] g P
    refine tb_ge oft_40 (by decide) ⟨by omega, by omega⟩ ⟨by omega, by omega⟩ (fun c1 => absurd c1 (by omega)) (fun c1 => ?_)
    show t_X d 63 43 lv [] g P
    refine t_0 oft_43 rfl (ld_i l2) ?_
    refine t_0 oft_44 rfl rfl ?_
    refine t_0 oft_45 rfl pq_add ?_
    refine t_2 oft_46 rfl (w := (px_s1 lv 3 (oI ((a : Int) + 1)), [])) rfl ?_
    replace l0 : px_lg (px_s1 lv 3 (oI ((a : Int) + 1))) 0 = some (pvR 189) := s1_ne (by decide) (fun _ => rfl) l0
    replace l1 : px_lg (px_s1 lv 3 (oI ((a : Int) + 1))) 1 = some (oI (all)) := s1_ne (by decide) (fun _ => rfl) l1
    replace l2 : px_lg (px_s1 lv 3 (oI ((a : Int) + 1))) 2 = some (oI ((a : Int))) := s1_ne (by decide) (fun _ => rfl) l2
    have l3 : px_lg (px_s1 lv 3 (oI ((a : Int) + 1))) 3 = some (oI ((a : Int) + 1)) := s1_eq
    generalize px_s1 lv 3 (oI ((a : Int) + 1)) = lv2 at l0 l1 l2 l3 ⊢
    show t_X d 63 47 lv2 [] g P
    refine oftL3 hd hN hall hla (by omega) (fun g9 st9 hst9 hS9 {lv9} l0 l1 l2 => ?_) N (a + 1) st _ (by omega) (by omega) (by omega) (by rw [Nat.sub_self]; rfl) hS l0 l1 l2 l3
    show t_X d 63 120 lv9 [] g9 P
    refine t_2 oft_120 rfl (w := (px_s1 lv9 2 (oI ((a : Int) + 1)), [])) (pq_inc l2 (by decide)) ?_
    replace l0 : px_lg (px_s1 lv9 2 (oI ((a : Int) + 1))) 0 = some (pvR 189) := s1_ne (by decide) (fun _ => rfl) l0
    replace l1 : px_lg (px_s1 lv9 2 (oI ((a : Int) + 1))) 1 = some (oI (all)) := s1_ne (by decide) (fun _ => rfl) l1
    have l2 : px_lg (px_s1 lv9 2 (oI ((a : Int) + 1))) 2 = some (oI ((a : Int) + 1)) := s1_eq
    generalize px_s1 lv9 2 (oI ((a : Int) + 1)) = lv3 at l0 l1 l2 ⊢
    show t_X d 63 123 lv3 [] g9 P
    refine t_1 oft_123 rfl (pb_goto (pc := 123) (by decide)) ?_
    show t_X d 63 35 lv3 [] g9 P
    exact ih (a + 1) st9 _ (by omega) (by omega) (by rw [hst9, hst]; rfl) hS9 l0 l1 l2
set_option maxHeartbeats 2000000 in
theorem oft_run {d N : Nat} (hd : 5 ≤ d) (hN : N ≤ 12) {A : Nat → Nat} {g0 : pH} {va vb vc : Int} {nu pl ah wf wl la : tC} (hA : oAh A N ah) {g : pH} (hS : oE g0 g va vb vc N nu pl ah wf wl la) {P : Option pv × pH → Prop} (hP : ∀ (g : pH) (wf wl la : tC) (st : Int × Int × Int), st = oMo (oR A N) (oF A N 0) N N → oE g0 g (oNm nu st.2.1) (oNm nu st.2.2) st.1 N nu pl ah wf wl la → P (none, g)) {lv : List (Nat × pv)} (l0 : px_lg lv 0 = some (pvR 189)) : t_X d 63 0 lv [] g P := by
  have hp := pw_12 hN
  have hp1 : 1 ≤ 2 ^ N := Nat.one_le_two_pow
  have hb0 := oF_b (A := A) (S := 0) hN
  refine t_0 oft_0 rfl (ld_a l0) ?_
  refine t_3 oft_1 rfl (ar := ([pvR 189], [])) (pcal_w (as := []) rfl rfl rfl oeo_189) ⟨by omega, Nat.le_of_ble_eq_true rfl, Nat.le_of_ble_eq_true rfl, rfl⟩ ?_
  refine oca_run (by omega) hN hA hS (fun g1 wf1 hS1 hw1 => ?_) rfl
  have ev : wf1 (2 ^ N - 1) = oF A N 0 := by rw [hw1 _ (by omega), oW_F (by omega), b32_i (by omega) (by omega)]
  rw [ev]
  show t_X d 63 4 lv [oI (oF A N 0)] g1 P
  refine t_2 oft_4 rfl (w := (px_s1 lv 1 (oI (oF A N 0)), [])) rfl ?_
  replace l0 : px_lg (px_s1 lv 1 (oI (oF A N 0))) 0 = some (pvR 189) := s1_ne (by decide) (fun _ => rfl) l0
  have l1 : px_lg (px_s1 lv 1 (oI (oF A N 0))) 1 = some (oI (oF A N 0)) := s1_eq
  generalize px_s1 lv 1 (oI (oF A N 0)) = lv2 at l0 l1 ⊢
  show t_X d 63 5 lv2 [] g1 P
  refine t_0 oft_5 rfl (ld_a l0) ?_
  refine t_0 oft_6 rfl rfl ?_
  refine ts_f (n := 2) rfl rfl (by decide) oft_7 rfl oeo_189 hS1 wt_jO_189_2 ogy_189_2 (by decide) ⟨by omega, by omega⟩ (fun g3 hS3 => ?_)
  replace hS3 : oE g0 g3 va vb 0 (N : Int) nu pl ah wf1 wl la := hS3
  show t_X d 63 10 lv2 [] g3 P
  refine t_0 oft_10 rfl (ld_a l0) ?_
  refine t_0 oft_11 rfl rfl ?_
  refine ts_f (n := 0) rfl rfl (by decide) oft_12 rfl oeo_189 hS3 wt_jO_189_0 ogy_189_0 (by decide) ⟨by omega, by omega⟩ (fun g4 hS4 => ?_)
  replace hS4 : oE g0 g4 (-1) vb 0 (N : Int) nu pl ah wf1 wl la := hS4
  show t_X d 63 15 lv2 [] g4 P
  refine t_0 oft_15 rfl (ld_a l0) ?_
  refine t_0 oft_16 rfl rfl ?_
  refine ts_f (n := 1) rfl rfl (by decide) oft_17 rfl oeo_189 hS4 wt_jO_189_1 ogy_189_1 (by decide) ⟨by omega, by omega⟩ (fun g5 hS5 => ?_)
  replace hS5 : oE g0 g5 (-1) (-1) 0 (N : Int) nu pl ah wf1 wl la := hS5
  show t_X d 63 20 lv2 [] g5 P
  refine t_0 oft_20 rfl (ld_i l1) ?_
  refine tz_ne oft_21 (by decide) ⟨by omega, by omega⟩ (fun c6 => ?_) (fun c6 => ?_)
  · show t_X d 63 25 lv2 [] g5 P
    refine t_0 oft_25 rfl (ld_a l0) ?_
    refine t_3 oft_26 rfl (ar := ([pvR 189], [])) (pcal_w (as := []) rfl rfl rfl oeo_189) ⟨by omega, Nat.le_of_ble_eq_true rfl, Nat.le_of_ble_eq_true rfl, rfl⟩ ?_
    refine ocl_run (by omega) hN hA hS5 (fun g7 wl7 hS7 hl7 => ?_) rfl
    show t_X d 63 29 lv2 [] g7 P
    refine t_0 oft_29 rfl (ld_a l0) ?_
    refine t_3 oft_30 rfl (ar := ([pvR 189], [])) (pcal_w (as := []) rfl rfl rfl oeo_189) ⟨by omega, Nat.le_of_ble_eq_true rfl, Nat.le_of_ble_eq_true rfl, rfl⟩ ?_
    refine ocw_run (by omega) hN hA hw1 hl7 hS7 (fun g8 la8 hS8 hz8 => ?_) rfl
    have hla : ∀ x y : Nat, x < y → y < N → la8 (12 * x + y) = oR A N x y := fun x y h1 h2 => by
      have h3 := oF_b (A := oA A x y) (S := 0) hN
      rw [hz8 x y h1 h2, oQ_F (by omega) (by omega) (by omega), b32_i (by omega) (by omega)]
      rfl
    show t_X d 63 33 lv2 [] g8 P
    refine t_0 oft_33 rfl rfl ?_
    refine t_2 oft_34 rfl (w := (px_s1 lv2 2 (oI 0), [])) rfl ?_
    replace l0 : px_lg (px_s1 lv2 2 (oI 0)) 0 = some (pvR 189) := s1_ne (by decide) (fun _ => rfl) l0
    replace l1 : px_lg (px_s1 lv2 2 (oI 0)) 1 = some (oI (oF A N 0)) := s1_ne (by decide) (fun _ => rfl) l1
    have l2 : px_lg (px_s1 lv2 2 (oI 0)) 2 = some (oI 0) := s1_eq
    generalize px_s1 lv2 2 (oI 0) = lv9 at l0 l1 l2 ⊢
    show t_X d 63 35 lv9 [] g8 P
    exact oftL2 (by omega) hN hb0 hla (fun g9 st9 hst9 hS9 => hP _ _ _ _ _ hst9 hS9) N 0 (0, -1, -1) _ (by omega) (by omega) rfl hS8 l0 l1 l2
  · show t_X d 63 24 lv2 [] g5 P
    refine t_5 oft_24 rfl rfl ?_
    exact hP _ _ _ _ (0, -1, -1) (by rw [c6]; exact (oMo_z (fun a b => (oF_b (A := oA A a b) (S := 0) hN).1)).symm) (by show oE g0 g5 (oNm nu (-1)) (oNm nu (-1)) 0 N nu pl ah wf1 wl la; rw [show oNm nu (-1) = -1 from if_pos rfl]; exact hS5)
