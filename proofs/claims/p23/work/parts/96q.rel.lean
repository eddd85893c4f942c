/-! the tie: what both sides know (printed by wip/e2/t8.py) -/
/-- the cells of what both sides know: but the tape's length; that too -/
def mR1 : Nat := 638668899497215412273374187011238579394419694248117842725240360554729793444563951746104633902628206937774452610411498994165086862036232831093729296607144456694473928395572762211296068914518162914208861475894826807539884870770676694928667492289607287684889769474796380263368945644944346434248720
def mR0 : Nat := 638668899497215412273374191138539603891804431375772412385526348983224528101763343370797673173518070662187417254296310616486867289179943715915047100375484765309204688165408531453011513511289131656436081544109808654621455597522496290328576899696078324806465854149772151880841418219464509697826834
theorem mx_f {V M i : Nat} (h : V &&& M = 0) (hi : M.testBit i = true) : V.testBit i = false := by
  have : (V &&& M).testBit i = false := by rw [h, Nat.zero_testBit]
  rw [Nat.testBit_and, hi, Bool.and_true] at this
  exact this
theorem mR1_b : mR1.testBit (cn 1) = true ∧ mR1.testBit (cn 211) = true ∧ mR1.testBit (cn 3) = true ∧ mR1.testBit (cn 77) = true ∧ mR1.testBit (cn 196 + 0) = true ∧ mR1.testBit (cn 196 + 73) = true ∧ mR1.testBit (cn 0 + 4) = true ∧ mR1.testBit (cn 196 + 72) = true ∧ (∀ j, j < 32 → mR1.testBit (cn (4 + 2 * j) + 2) = true) ∧ (∀ j, j < 32 → mR1.testBit (cn (78 + 2 * j) + 2) = true) := by decide +kernel
theorem mR0_b : mR1 &&& mR0 = mR1 ∧ mR0.testBit (cn 0 + 1) = true ∧ mR0.testBit (cn 196 + 17) = true := by decide +kernel
theorem mR01 {W : Nat} (h : W &&& mR0 = 0) : W &&& mR1 = 0 := by
  rw [← mR0_b.1, Nat.and_comm mR1 mR0, ← Nat.and_assoc, h, Nat.zero_and]
def rN (g : pH) : Prop := ∀ j, j < 32 → (cF g (4 + 2 * j) 2 = 1 ↔ bM g j)
def rK (g : pH) : Prop := (∀ j, j < 32 → (cF g (78 + 2 * j) 2 = 1 ↔ (g.1 196 73).toBitVec.getLsbD j = true)) ∧ cF g 0 4 = cF g 196 72
def R1 (g : pH) : Prop := rS g ∧ tpR (fA g 1) (fA g 211) ∧ rN g ∧ rK g
def R0 (g : pH) : Prop := R1 g ∧ cF g 0 1 = cF g 196 17
theorem rS_f {W : Nat} {g g1 : pH} (hM : f_M W g g1) (hW : W &&& mR1 = 0) (h : rS g) : rS g1 := rS_M hM ⟨mx_f hW mR1_b.2.2.1, mx_f hW mR1_b.2.2.2.1⟩ h
theorem R1_f {W : Nat} {g g1 : pH} (hM : f_M W g g1) (hW : W &&& mR1 = 0) (h : R1 g) : R1 g1 := by
  obtain ⟨h1, h2, h3, h4, h5⟩ := h
  obtain ⟨b1, b2, b3, b4, b5, b6, b7, b8, b9, b10⟩ := mR1_b
  refine ⟨rS_f hM hW h1, ?_, fun j hj => ?_, fun j hj => ?_, ?_⟩
  · rw [fA_M hM (mx_f hW b1), fA_M hM (mx_f hW b2)]
    exact h2
  · rw [cF_M hM (mx_f hW (b9 j hj))]
    unfold bM
    rw [(hM.1 196 0 (mx_f hW b5)).1]
    exact h3 j hj
  · rw [cF_M hM (mx_f hW (b10 j hj)), (hM.1 196 73 (mx_f hW b6)).1]
    exact h4 j hj
  · rw [cF_M hM (mx_f hW b7), cF_M hM (mx_f hW b8)]
    exact h5
theorem R0_f {W : Nat} {g g1 : pH} (hM : f_M W g g1) (hW : W &&& mR0 = 0) (h : R0 g) : R0 g1 := by
  refine ⟨R1_f hM (mR01 hW) h.1, ?_⟩
  rw [cF_M hM (mx_f hW mR0_b.2.1), cF_M hM (mx_f hW mR0_b.2.2)]
  exact h.2
theorem to_iff {g : pH} (h : R1 g) {i : Int} : toC g i ↔ toM g i := by
  constructor
  · rintro ⟨m, h1, h2, h3⟩
    exact ⟨m, h1, h2, (h.2.2.1 m h1).mp h3⟩
  · rintro ⟨m, h1, h2, h3⟩
    exact ⟨m, h1, h2, (h.2.2.1 m h1).mpr h3⟩
/-- an op of both sides: the class', then the reference's -/
def pr_ (R : pH → Prop) (μ ν : Nat) (as : List pv) (τ : Nat) (q : Bool) (g : pH) : Prop := t_X 99 μ 0 (px_ar 0 (pvR 0 :: as)) [] g (fun o => ∃ v, o.1 = some v ∧ ct v = τ ∧ t_X 99 ν 0 (px_ar 0 (pvR 196 :: as)) [] o.2 (fun o2 => ∃ v2, o2.1 = some v2 ∧ ct v2 = τ ∧ g_I eG o2.2 ∧ xL o2.2 ∧ R o2.2 ∧ (q = true → v = v2)))
theorem pr_no {R : pH → Prop} {μ ν : Nat} {as : List pv} {τ : Nat} {q : Bool} {g : pH} (h : pr_ R μ ν as τ q g) : pr_ R μ ν as τ false g := t_mono h (fun o ho => by
  obtain ⟨v, h1, h2, h3⟩ := ho
  refine ⟨v, h1, h2, t_mono h3 (fun o2 h4 => ?_)⟩
  obtain ⟨v2, g1, g2, g3, g4, g5, -⟩ := h4
  exact ⟨v2, g1, g2, g3, g4, g5, fun z => by cases z⟩)
