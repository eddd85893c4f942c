/-! the machine over a plain world: roles for addresses, functions for what cells hold. No new cells. -/
abbrev pv : Type := Int32 ⊕ (Int64 ⊕ Option Nat)
abbrev pH : Type := (Nat → Nat → Int32) × (Nat → Nat → Int64) × (Nat → Nat → Option Nat) × (Nat → Nat → Int32) × (Nat → Nat → Int64) × (Nat → Nat → Option Nat)
def pV (ad : Nat → Nat) (v : pv) : Value := match v with
  | .inl x => .int x
  | .inr (.inl x) => .long x
  | .inr (.inr none) => .null
  | .inr (.inr (some k)) => .ref (ad k)
def pu {α : Type} (f : Nat → Nat → α) (k y : Nat) (v : α) : Nat → Nat → α := fun a b => if a = k ∧ b = y then v else f a b
def pc2 (v : pv) : Bool := match v with
  | .inr (.inl _) => true
  | _ => false
def pF (h : pH) (x k y : Nat) : pv := match xk_ty x y with
  | .long => .inr (.inl (h.2.1 k y))
  | .object _ | .array _ => .inr (.inr (h.2.2.1 k y))
  | _ => .inl (h.1 k y)
def pnf (x : Nat) : Nat := match xk_cl[x]? with
  | some q => q.2.2
  | none => 0
def pCe (E : Nat → ClassId) (ad : Nat → Nat) (h : pH) (k : Nat) (t : Nat × Nat) : va_E := match t.1 with
  | 0 => .inr (t.2, (List.range (pnf t.2)).map (fun y => pV ad (pF h t.2 k y)))
  | 1 => .inl (E 0, t.2, .inl (h.2.2.2.1 k))
  | 2 => .inl (E 1, t.2, .inl (h.2.2.2.1 k))
  | 3 => .inl (E 2, t.2, .inr (.inl (h.2.2.2.2.1 k)))
  | _ => .inl (E 3, t.2, .inr (.inr (.inr (.inr (fun j => (h.2.2.2.2.2 k j).map ad)))))
def pW (ly : List (Nat × Nat)) (E : Nat → ClassId) (ad : Nat → Nat) (h : pH) : va_W := (List.range ly.length).map (fun k => (ad k, pCe E ad h k (ly.getD k (9, 0))))
/-! texts, and the library's functions over ints -/
def xs_by : List (List Nat) := xs_T.map (fun t => t.2.2.toList.map Char.toNat)
def xs_ixF (c : Int32) : List Nat → Nat → Int32
  | [], _ => -1
  | b :: l, k => if c = nI b then nI k else xs_ixF c l (k + 1)
def xs_ix (i : Nat) (c : Int32) : Int32 := xs_ixF c (xs_by.getD i []) 0
def xs_sh (a b : Int32) : Int32 := (a.toUInt32 >>> (b.toUInt32 &&& Int32.toUInt32 31)).toInt32
def xs_bc1 (i : Int32) : Int32 := i - (xs_sh i 1 &&& 1431655765)
def xs_bc2 (i : Int32) : Int32 := (i &&& 858993459) + (xs_sh i 2 &&& 858993459)
def xs_bc3 (i : Int32) : Int32 := (i + xs_sh i 4) &&& 252645135
def xs_bc4 (i : Int32) : Int32 := i + xs_sh i 8
def xs_bc5 (i : Int32) : Int32 := i + xs_sh i 16
def xs_bc (i : Int32) : Int32 := xs_bc5 (xs_bc4 (xs_bc3 (xs_bc2 (xs_bc1 i)))) &&& 63
def xs_ab (x : Int32) : Int32 := if x < 0 then -x else x
/-! arithmetic -/
def px_u1 (f : Int32 → Int32) (st : List pv) : Option (List pv) := match st with
  | .inl x :: r => some (.inl (f x) :: r)
  | _ => none
def px_u2 (f : Int32 → Int32 → Int32) (st : List pv) : Option (List pv) := match st with
  | .inl y :: .inl x :: r => some (.inl (f x y) :: r)
  | _ => none
def px_d2 (f : Int32 → Int32 → Int32) (st : List pv) : Option (List pv) := match st with
  | .inl y :: .inl x :: r => if y = 0 then none else some (.inl (f x y) :: r)
  | _ => none
def px_m1 (f : Int64 → Int64) (st : List pv) : Option (List pv) := match st with
  | .inr (.inl x) :: r => some (.inr (.inl (f x)) :: r)
  | _ => none
def px_m2 (f : Int64 → Int64 → Int64) (st : List pv) : Option (List pv) := match st with
  | .inr (.inl y) :: .inr (.inl x) :: r => some (.inr (.inl (f x y)) :: r)
  | _ => none
def px_e2 (f : Int64 → Int64 → Int64) (st : List pv) : Option (List pv) := match st with
  | .inr (.inl y) :: .inr (.inl x) :: r => if y = 0 then none else some (.inr (.inl (f x y)) :: r)
  | _ => none
def px_il (f : Int32 → Int64) (st : List pv) : Option (List pv) := match st with
  | .inl x :: r => some (.inr (.inl (f x)) :: r)
  | _ => none
def px_li (f : Int64 → Int32) (st : List pv) : Option (List pv) := match st with
  | .inr (.inl x) :: r => some (.inl (f x) :: r)
  | _ => none
def px_lli (f : Int64 → Int64 → Int32) (st : List pv) : Option (List pv) := match st with
  | .inr (.inl y) :: .inr (.inl x) :: r => some (.inl (f x y) :: r)
  | _ => none
def px_lg (l : List (Nat × pv)) (i : Nat) : Option pv := match l with
  | [] => none
  | q :: l => if q.1 == i then some q.2 else px_lg l i
def px_ldi (lv : List (Nat × pv)) (i : Nat) (st : List pv) : Option (List pv) := match px_lg lv i with
  | some (.inl x) => some (.inl x :: st)
  | _ => none
def px_ldl (lv : List (Nat × pv)) (i : Nat) (st : List pv) : Option (List pv) := match px_lg lv i with
  | some (.inr (.inl x)) => some (.inr (.inl x) :: st)
  | _ => none
def px_lda (lv : List (Nat × pv)) (i : Nat) (st : List pv) : Option (List pv) := match px_lg lv i with
  | some (.inr (.inr x)) => some (.inr (.inr x) :: st)
  | _ => none
/-- what a frame sees of the law's script: its ints, how many; the script stands at role 1000 -/
abbrev pS : Type := Option ((Nat → Int32) × Nat)
def px_get (ly : List (Nat × Nat)) (h : pH) (x y : Nat) (st : List pv) : Option (List pv) := match st with
  | .inr (.inr (some k)) :: r => if ly[k]? = some (0, x) then some (pF h x k y :: r) else none
  | _ => none
def px_alen (ly : List (Nat × Nat)) (sc : pS) (st : List pv) : Option (List pv) := match st with
  | .inr (.inr (some k)) :: r => if k = 1000 then (match sc with
      | some q => some (.inl (nI q.2) :: r)
      | none => none) else match ly[k]? with
      | some t => if 1 ≤ t.1 ∧ t.1 ≤ 4 then some (.inl (nI t.2) :: r) else none
      | none => none
  | _ => none
def px_iald (ly : List (Nat × Nat)) (sc : pS) (h : pH) (st : List pv) : Option (List pv) := match st with
  | .inl i :: .inr (.inr (some k)) :: r => if k = 1000 then (match sc with
      | some q => if i < 0 ∨ q.2 ≤ i.toNatClampNeg then none else some (.inl (q.1 i.toNatClampNeg) :: r)
      | none => none) else match ly[k]? with
      | some t => if t.1 = 1 then (if i < 0 ∨ t.2 ≤ i.toNatClampNeg then none else some (.inl (h.2.2.2.1 k i.toNatClampNeg) :: r)) else none
      | none => none
  | _ => none
def px_bald (ly : List (Nat × Nat)) (h : pH) (st : List pv) : Option (List pv) := match st with
  | .inl i :: .inr (.inr (some k)) :: r => match ly[k]? with
      | some t => if t.1 = 2 then (if i < 0 ∨ t.2 ≤ i.toNatClampNeg then none else some (.inl (h.2.2.2.1 k i.toNatClampNeg) :: r)) else none
      | none => none
  | _ => none
def px_lald (ly : List (Nat × Nat)) (h : pH) (st : List pv) : Option (List pv) := match st with
  | .inl i :: .inr (.inr (some k)) :: r => match ly[k]? with
      | some t => if t.1 = 3 then (if i < 0 ∨ t.2 ≤ i.toNatClampNeg then none else some (.inr (.inl (h.2.2.2.2.1 k i.toNatClampNeg)) :: r)) else none
      | none => none
  | _ => none
def px_aald (ly : List (Nat × Nat)) (h : pH) (st : List pv) : Option (List pv) := match st with
  | .inl i :: .inr (.inr (some k)) :: r => match ly[k]? with
      | some t => if t.1 = 4 then (if i < 0 ∨ t.2 ≤ i.toNatClampNeg then none else some (.inr (.inr (h.2.2.2.2.2 k i.toNatClampNeg)) :: r)) else none
      | none => none
  | _ => none
def px_sum : List pv → Nat
  | [] => 0
  | a :: l => (if pc2 a then 2 else 1) + px_sum l
/-- what only changes the stack -/
def px_pf (I : Jvm.ClassFile.Instr) : List (Nat × Nat) → Nat → pS → Nat → Nat → List (Nat × pv) → List pv → pH → Option (List pv) := match I with
  | .iconst n => fun _ _ _ _ _ _ st _ => some (.inl (Int32.ofInt n) :: st)
  | .bipush n => fun _ _ _ _ _ _ st _ => some (.inl (Int8.ofInt n).toInt32 :: st)
  | .sipush n => fun _ _ _ _ _ _ st _ => some (.inl (Int16.ofInt n).toInt32 :: st)
  | .lconst n => fun _ _ _ _ _ _ st _ => some (.inr (.inl (Int64.ofNat (n : Nat))) :: st)
  | .ldc _ => fun _ _ _ x y _ st _ => if x = 0 then some (.inl (xe_j y) :: st) else if x = 1 ∧ y < 5 then some (.inr (.inr (some (1001 + y))) :: st) else none
  | .ldc_w _ => fun _ _ _ x y _ st _ => if x = 0 then some (.inl (xe_j y) :: st) else none
  | .ldc2_w _ => fun _ _ _ _ y _ st _ => some (.inr (.inl (xe_k y)) :: st)
  | .aconst_null => fun _ _ _ _ _ _ st _ => some (.inr (.inr none) :: st)
  | .iload i => fun _ _ _ _ _ lv st _ => px_ldi lv i st
  | .iload_n i => fun _ _ _ _ _ lv st _ => px_ldi lv (i : Nat) st
  | .lload i => fun _ _ _ _ _ lv st _ => px_ldl lv i st
  | .lload_n i => fun _ _ _ _ _ lv st _ => px_ldl lv (i : Nat) st
  | .aload i => fun _ _ _ _ _ lv st _ => px_lda lv i st
  | .aload_n i => fun _ _ _ _ _ lv st _ => px_lda lv (i : Nat) st
  | .iadd => fun _ _ _ _ _ _ st _ => px_u2 (fun a b => a + b) st
  | .isub => fun _ _ _ _ _ _ st _ => px_u2 (fun a b => a - b) st
  | .imul => fun _ _ _ _ _ _ st _ => px_u2 (fun a b => a * b) st
  | .idiv => fun _ _ _ _ _ _ st _ => px_d2 (fun a b => a / b) st
  | .irem => fun _ _ _ _ _ _ st _ => px_d2 (fun a b => a - a / b * b) st
  | .ineg => fun _ _ _ _ _ _ st _ => px_u1 (fun a => -a) st
  | .iand => fun _ _ _ _ _ _ st _ => px_u2 (fun a b => a &&& b) st
  | .ior => fun _ _ _ _ _ _ st _ => px_u2 (fun a b => a ||| b) st
  | .ixor => fun _ _ _ _ _ _ st _ => px_u2 (fun a b => a ^^^ b) st
  | .ishl => fun _ _ _ _ _ _ st _ => px_u2 (fun a b => a <<< (b &&& 31)) st
  | .ishr => fun _ _ _ _ _ _ st _ => px_u2 (fun a b => a >>> (b &&& 31)) st
  | .iushr => fun _ _ _ _ _ _ st _ => px_u2 (fun a b => (a.toUInt32 >>> (b.toUInt32 &&& Int32.toUInt32 31)).toInt32) st
  | .ladd => fun _ _ _ _ _ _ st _ => px_m2 (fun a b => a + b) st
  | .lsub => fun _ _ _ _ _ _ st _ => px_m2 (fun a b => a - b) st
  | .lmul => fun _ _ _ _ _ _ st _ => px_m2 (fun a b => a * b) st
  | .ldiv => fun _ _ _ _ _ _ st _ => px_e2 (fun a b => a / b) st
  | .lrem => fun _ _ _ _ _ _ st _ => px_e2 (fun a b => a - a / b * b) st
  | .lneg => fun _ _ _ _ _ _ st _ => px_m1 (fun a => -a) st
  | .lcmp => fun _ _ _ _ _ _ st _ => px_lli lg_cmp st
  | .i2l => fun _ _ _ _ _ _ st _ => px_il Int32.toInt64 st
  | .l2i => fun _ _ _ _ _ _ st _ => px_li Int64.toInt32 st
  | .i2b => fun _ _ _ _ _ _ st _ => px_u1 (fun a => a.toInt8.toInt32) st
  | .i2c => fun _ _ _ _ _ _ st _ => px_u1 (fun a => (a.toUInt32 % 65536).toInt32) st
  | .dup => fun _ _ _ _ _ _ st _ => match st with
    | a :: r => if pc2 a then none else some (a :: a :: r)
    | _ => none
  | .dup2 => fun _ _ _ _ _ _ st _ => match st with
    | a :: b :: r => if pc2 a || pc2 b then none else some (a :: b :: a :: b :: r)
    | _ => none
  | .pop => fun _ _ _ _ _ _ st _ => match st with
    | a :: r => if pc2 a then none else some r
    | _ => none
  | .pop2 => fun _ _ _ _ _ _ st _ => match st with
    | a :: r => if pc2 a then some r else none
    | _ => none
  | .getfield _ => fun ly _ _ x y _ st h => px_get ly h x y st
  | .arraylength => fun ly _ sc _ _ _ st _ => px_alen ly sc st
  | .iaload => fun ly _ sc _ _ _ st h => px_iald ly sc h st
  | .baload => fun ly _ _ _ _ _ st h => px_bald ly h st
  | .laload => fun ly _ _ _ _ _ st h => px_lald ly h st
  | .aaload => fun ly _ _ _ _ _ st h => px_aald ly h st
  | .invokestatic _ => fun _ d _ x _ _ st _ => if 1 ≤ d ∧ px_sum st ≤ 8 then (if x = 2 then px_u2 xe_max st else if x = 3 then px_u2 xe_min st else if x = 4 then px_m1 xe_abs st else none) else none
  | _ => fun _ _ _ _ _ _ _ _ => none
def px_push (ly : List (Nat × Nat)) (d : Nat) (sc : pS) (I : Jvm.ClassFile.Instr) (x y : Nat) (lv : List (Nat × pv)) (st : List pv) (h : pH) : Option (List pv) := px_pf I ly d sc x y lv st h
/-- where it goes on -/
def px_tg (pc : Nat) (o : Int) : Nat := ((pc : Int) + o).toNat
def px_bf (I : Jvm.ClassFile.Instr) : Nat → List pv → Option (Nat × List pv) := match I with
  | .goto o => fun pc st => if 0 ≤ (pc : Int) + o then some (px_tg pc o, st) else none
  | .ifCond c o => fun pc st => match st with
    | .inl x :: r => if 0 ≤ (pc : Int) + o then (match c with
      | .eq => if x = 0 then some (px_tg pc o, r) else some (pc + 3, r)
      | .ne => if x = 0 then some (pc + 3, r) else some (px_tg pc o, r)
      | .lt => if x < 0 then some (px_tg pc o, r) else some (pc + 3, r)
      | .ge => if x < 0 then some (pc + 3, r) else some (px_tg pc o, r)
      | .gt => if 0 < x then some (px_tg pc o, r) else some (pc + 3, r)
      | .le => if 0 < x then some (pc + 3, r) else some (px_tg pc o, r)) else none
    | _ => none
  | .if_icmp c o => fun pc st => match st with
    | .inl y :: .inl x :: r => if 0 ≤ (pc : Int) + o then (match c with
      | .eq => if x = y then some (px_tg pc o, r) else some (pc + 3, r)
      | .ne => if x = y then some (pc + 3, r) else some (px_tg pc o, r)
      | .lt => if x < y then some (px_tg pc o, r) else some (pc + 3, r)
      | .ge => if x < y then some (pc + 3, r) else some (px_tg pc o, r)
      | .gt => if y < x then some (px_tg pc o, r) else some (pc + 3, r)
      | .le => if y < x then some (pc + 3, r) else some (px_tg pc o, r)) else none
    | _ => none
  | .ifnull o => fun pc st => match st with
    | .inr (.inr none) :: r => if 0 ≤ (pc : Int) + o then some (px_tg pc o, r) else none
    | .inr (.inr (some _)) :: r => some (pc + 3, r)
    | _ => none
  | .ifnonnull o => fun pc st => match st with
    | .inr (.inr none) :: r => some (pc + 3, r)
    | .inr (.inr (some _)) :: r => if 0 ≤ (pc : Int) + o then some (px_tg pc o, r) else none
    | _ => none
  | .tableswitch df lo hi os => fun pc st => match st with
    | .inl x :: r => if x.toInt < lo ∨ hi < x.toInt then (if 0 ≤ (pc : Int) + df then some (px_tg pc df, r) else none) else match os[(x.toInt - lo).toNat]? with
      | some o => if 0 ≤ (pc : Int) + o then some (px_tg pc o, r) else none
      | none => none
    | _ => none
  | _ => fun _ _ => none
/-- stores into places of the frame -/
def px_s1 (l : List (Nat × pv)) (i : Nat) (a : pv) : List (Nat × pv) := (i, a) :: l.filter (fun q => !(q.1 == i) && !(q.1 + 1 == i && pc2 q.2))
def px_s2 (l : List (Nat × pv)) (i : Nat) (a : pv) : List (Nat × pv) := (i, a) :: l.filter (fun q => !(q.1 == i) && (!(q.1 == i + 1) && !(q.1 + 1 == i && pc2 q.2)))
def px_ti (L i : Nat) (lv : List (Nat × pv)) (st : List pv) : Option (List (Nat × pv) × List pv) := match st with
  | .inl x :: r => if i < L then some (px_s1 lv i (.inl x), r) else none
  | _ => none
def px_ta (L i : Nat) (lv : List (Nat × pv)) (st : List pv) : Option (List (Nat × pv) × List pv) := match st with
  | .inr (.inr x) :: r => if i < L then some (px_s1 lv i (.inr (.inr x)), r) else none
  | _ => none
def px_tl (L i : Nat) (lv : List (Nat × pv)) (st : List pv) : Option (List (Nat × pv) × List pv) := match st with
  | .inr (.inl x) :: r => if i + 1 < L then some (px_s2 lv i (.inr (.inl x)), r) else none
  | _ => none
def px_of (I : Jvm.ClassFile.Instr) : Nat → List (Nat × pv) → List pv → Option (List (Nat × pv) × List pv) := match I with
  | .istore i => fun L lv st => px_ti L i lv st
  | .istore_n i => fun L lv st => px_ti L (i : Nat) lv st
  | .astore i => fun L lv st => px_ta L i lv st
  | .astore_n i => fun L lv st => px_ta L (i : Nat) lv st
  | .lstore i => fun L lv st => px_tl L i lv st
  | .lstore_n i => fun L lv st => px_tl L (i : Nat) lv st
  | .iinc i n => fun L lv st => match px_lg lv i with
    | some (.inl x) => if i < L then some (px_s1 lv i (.inl (x + Int32.ofInt n)), st) else none
    | _ => none
  | _ => fun _ _ _ => none
/-- stores into the world -/
def px_put (ly : List (Nat × Nat)) (h : pH) (x y : Nat) (st : List pv) : Option (List pv × pH) := match st with
  | v :: .inr (.inr (some k)) :: r => if ly[k]? = some (0, x) then (match xk_ty x y, v with
      | .int, .inl n => some (r, (pu h.1 k y n, h.2))
      | .boolean, .inl n => if n = 0 ∨ n = 1 then some (r, (pu h.1 k y n, h.2)) else none
      | .long, .inr (.inl n) => some (r, (h.1, pu h.2.1 k y n, h.2.2))
      | .object _, .inr (.inr n) => some (r, (h.1, h.2.1, pu h.2.2.1 k y n, h.2.2.2))
      | .array _, .inr (.inr n) => some (r, (h.1, h.2.1, pu h.2.2.1 k y n, h.2.2.2))
      | _, _ => none) else none
  | _ => none
def px_iast (ly : List (Nat × Nat)) (h : pH) (st : List pv) : Option (List pv × pH) := match st with
  | .inl v :: .inl i :: .inr (.inr (some k)) :: r => match ly[k]? with
      | some t => if t.1 = 1 then (if i < 0 ∨ t.2 ≤ i.toNatClampNeg then none else some (r, (h.1, h.2.1, h.2.2.1, pu h.2.2.2.1 k i.toNatClampNeg v, h.2.2.2.2))) else none
      | none => none
  | _ => none
def px_bast (ly : List (Nat × Nat)) (h : pH) (st : List pv) : Option (List pv × pH) := match st with
  | .inl v :: .inl i :: .inr (.inr (some k)) :: r => match ly[k]? with
      | some t => if t.1 = 2 then (if i < 0 ∨ t.2 ≤ i.toNatClampNeg then none else some (r, (h.1, h.2.1, h.2.2.1, pu h.2.2.2.1 k i.toNatClampNeg v.toInt8.toInt32, h.2.2.2.2))) else none
      | none => none
  | _ => none
def px_last (ly : List (Nat × Nat)) (h : pH) (st : List pv) : Option (List pv × pH) := match st with
  | .inr (.inl v) :: .inl i :: .inr (.inr (some k)) :: r => match ly[k]? with
      | some t => if t.1 = 3 then (if i < 0 ∨ t.2 ≤ i.toNatClampNeg then none else some (r, (h.1, h.2.1, h.2.2.1, h.2.2.2.1, pu h.2.2.2.2.1 k i.toNatClampNeg v, h.2.2.2.2.2))) else none
      | none => none
  | _ => none
def px_acp (ly : List (Nat × Nat)) (d : Nat) (h : pH) (st : List pv) : Option (List pv × pH) := match st with
  | .inl n :: .inl dp :: .inr (.inr (some a)) :: .inl sp :: .inr (.inr (some a0)) :: r => match ly[a]?, ly[a0]? with
      | some t, some t0 => if 1 ≤ d ∧ px_sum r ≤ 8 ∧ t.1 = 1 ∧ t0.1 = 1 ∧ ¬ sp < 0 ∧ ¬ dp < 0 ∧ ¬ n < 0 ∧ sp.toNatClampNeg + n.toNatClampNeg ≤ t0.2 ∧ dp.toNatClampNeg + n.toNatClampNeg ≤ t.2 then
          some (r, (h.1, h.2.1, h.2.2.1, (fun k => if k = a then va_cpy (h.2.2.2.1 a0) (h.2.2.2.1 a) sp.toNatClampNeg dp.toNatClampNeg n.toNatClampNeg else h.2.2.2.1 k), h.2.2.2.2)) else none
      | _, _ => none
  | _ => none
def px_wf (I : Jvm.ClassFile.Instr) : List (Nat × Nat) → Nat → Nat → Nat → List pv → pH → Option (List pv × pH) := match I with
  | .putfield _ => fun ly _ x y st h => px_put ly h x y st
  | .iastore => fun ly _ _ _ st h => px_iast ly h st
  | .bastore => fun ly _ _ _ st h => px_bast ly h st
  | .lastore => fun ly _ _ _ st h => px_last ly h st
  | .invokestatic _ => fun ly d x _ st h => if x = 5 then px_acp ly d h st else none
  | _ => fun _ _ _ _ _ _ => none
def px_ret (t : Option FieldType) (I : Jvm.ClassFile.Instr) (st : List pv) : Option (Option pv) := match I, st with
  | .ireturn, [.inl x] => (match t with
    | some .int => some (some (.inl x))
    | some .boolean => if x = 0 ∨ x = 1 then some (some (.inl x)) else none
    | _ => none)
  | .lreturn, [.inr (.inl x)] => if xe_rl t then some (some (.inr (.inl x))) else none
  | .areturn, [.inr (.inr x)] => if xe_rr t then some (some (.inr (.inr x))) else none
  | .return_, [] => if t.isNone then some none else none
  | _, _ => none
def px_cal (ly : List (Nat × Nat)) (I : Jvm.ClassFile.Instr) (x y : Nat) (st : List pv) : Option (List pv × List pv) := match I with
  | .invokestatic _ => if (x = 0 ∨ x = 1) ∧ (xm y).2.2.2.2.2.2.2 = 0 ∧ (xm y).2.2.2.2.2.1 ≤ st.length then some ((st.take (xm y).2.2.2.2.2.1).reverse, st.drop (xm y).2.2.2.2.2.1) else none
  | .invokevirtual _ => if x = 0 ∧ (xm y).2.2.2.2.2.2.2 = 1 ∧ (xm y).2.2.2.2.2.1 ≤ st.length then match st.drop (xm y).2.2.2.2.2.1 with
      | .inr (.inr (some k)) :: r => if ly[k]? = some (0, (xm y).2.2.2.2.2.2.1) then some (.inr (.inr (some k)) :: (st.take (xm y).2.2.2.2.2.1).reverse, r) else none
      | _ => none
    else none
  | _ => none
def px_ar : Nat → List pv → List (Nat × pv)
  | _, [] => []
  | i, a :: l => (i, a) :: px_ar (if pc2 a then i + 2 else i + 1) l
/-- one step: what goes on behind it is handed in -/
abbrev px_KT : Type := Nat → List (Nat × pv) → List pv → pH → Option (Option pv × pH)
abbrev px_CT : Type := Nat → List pv → pH → Option (Option pv × pH)
abbrev px_ST : Type := List (Nat × Nat) → Nat → pS → Nat → px_KT → px_CT → xe_I → Nat → List (Nat × pv) → List pv → pH → Option (Option pv × pH)
def px_h0 : px_ST := fun ly d sc _ K _ q pc lv st h => match px_push ly d sc q.1 q.2.2.1 q.2.2.2.1 lv st h with
  | some st2 => K (pc + q.2.1) lv st2 h
  | none => none
def px_h1 : px_ST := fun _ _ _ _ K _ q pc lv st h => match px_bf q.1 pc st with
  | some t => K t.1 lv t.2 h
  | none => none
def px_h2 : px_ST := fun _ _ _ μ K _ q pc lv st h => match px_of q.1 (xm μ).2.2.1 lv st with
  | some w => K (pc + q.2.1) w.1 w.2 h
  | none => none
/-- a text's indexOf; how many bits; what an int is without its sign -/
def px_ixo (d x : Nat) (st : List pv) : Option (List pv) := match x with
  | 6 => match st with
    | .inl c :: .inr (.inr (some k)) :: r => if 8 ≤ d ∧ px_sum r ≤ 8 ∧ 1001 ≤ k ∧ k < 1006 then some (.inl (xs_ix (k - 1001) c) :: r) else none
    | _ => none
  | 7 => if 1 ≤ d ∧ px_sum st ≤ 8 then px_u1 xs_bc st else none
  | 8 => if 1 ≤ d ∧ px_sum st ≤ 8 then px_u1 xs_ab st else none
  | _ => none
def px_h6 : px_ST := fun _ d _ _ K _ q pc lv st h => match px_ixo d q.2.2.1 st with
  | some st2 => K (pc + 3) lv st2 h
  | none => none
def px_h3 : px_ST := fun ly d _ _ K call q pc lv st h => match px_cal ly q.1 q.2.2.1 q.2.2.2.1 st with
  | some ar => if 1 ≤ d ∧ px_sum ar.2 ≤ 8 ∧ px_sum ar.1 ≤ (xm q.2.2.2.1).2.2.1 ∧ (xm q.2.2.2.1).2.2.2.2.1 = (0, 0) then
      (match call q.2.2.2.1 ar.1 h with
      | some o => K (pc + 3) lv (o.1.toList ++ ar.2) o.2
      | none => none) else none
  | none => none
def px_h4 : px_ST := fun ly d _ _ K _ q pc lv st h => match px_wf q.1 ly d q.2.2.1 q.2.2.2.1 st h with
  | some w => K (pc + q.2.1) lv w.1 w.2
  | none => none
def px_h5 : px_ST := fun _ _ _ μ _ _ q _ _ st h => match px_ret (xm μ).2.2.2.1 q.1 st with
  | some r => some (r, h)
  | none => none
def px_sd (k : Nat) : px_ST := match k with
  | 0 => px_h0
  | 1 => px_h1
  | 2 => px_h2
  | 3 => px_h3
  | 4 => px_h4
  | 7 => px_h6
  | _ => px_h5
def px_kd (I : Jvm.ClassFile.Instr) (x : Nat) : Nat := match I with
  | .invokevirtual _ => if x = 6 then 7 else 3
  | .invokestatic i => if x = 7 ∨ x = 8 then 7 else xe_kd (.invokestatic i) x
  | I => xe_kd I x
def px_step (ly : List (Nat × Nat)) (d : Nat) (sc : pS) (μ : Nat) (K : px_KT) (call : px_CT) (q : xe_I) (pc : Nat) (lv : List (Nat × pv)) (st : List pv) (h : pH) : Option (Option pv × pH) := px_sd (px_kd q.1 q.2.2.1) ly d sc μ K call q pc lv st h
def px_run (ly : List (Nat × Nat)) : Nat → Nat → pS → Nat → Nat → List (Nat × pv) → List pv → pH → Option (Option pv × pH)
  | 0, _, _, _, _, _, _, _ => none
  | n + 1, d, sc, μ, pc, lv, st, h => match xe_look (xc μ) pc with
    | some q => px_step ly d sc μ (fun pc2 lv2 st2 h2 => px_run ly n d sc μ pc2 lv2 st2 h2) (fun y vs h2 => px_run ly n (d - 1) none y 0 (px_ar 0 vs) [] h2) q pc lv st h
    | none => none
