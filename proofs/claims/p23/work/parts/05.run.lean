/-! the reckoner's steps -/
abbrev xe_o : Type := Option xe_v × xe_h
def xe_look (cd : List (List (Option xe_I))) (pc : Nat) : Option xe_I := match cd[pc / 32]? with
  | some l => match l[pc % 32]? with
    | some r => r
    | none => none
  | none => none
def xe_len (I : Jvm.ClassFile.Instr) : Nat := match I with
  | .bipush _ | .iload _ | .lload _ | .aload _ | .istore _ | .lstore _ | .astore _ | .ldc _ | .newarray _ => 2
  | .sipush _ | .ldc_w _ | .ldc2_w _ | .getfield _ | .putfield _ | .new _ | .anewarray _ | .invokevirtual _ | .invokespecial _ | .invokestatic _ | .goto _ | .ifCond _ _ | .if_icmp _ _ | .ifnull _ | .ifnonnull _ | .iinc _ _ => 3
  | .tableswitch _ _ _ _ => 0
  | _ => 1
def xk_ty (x y : Nat) : FieldType := match xk_yy[x]? with
  | some f => f y
  | none => .float
def xe_fk (t : FieldType) (v : xe_v) : Bool := match t with
  | .int => v.1 == 0
  | .long => v.1 == 1
  | .boolean => v.1 == 0 && Nat.ble 2147483648 v.2.1 && Nat.ble v.2.2 2147483649
  | .object _ | .array _ => v.1 == 2 || v.1 == 3
  | _ => false
def xe_dv (t : FieldType) : xe_v := match t with
  | .long => (1, 9223372036854775808, 9223372036854775808)
  | .object _ | .array _ => (2, 0, 0)
  | _ => (0, 2147483648, 2147483648)
def xe_ld (t : Nat) (lv : List (Nat × xe_v)) (i : Nat) (st : List xe_v) : Option (List xe_v) := match xe_lg lv i with
  | some a => if a.1 == t then some (a :: st) else none
  | none => none
def xe_la (lv : List (Nat × xe_v)) (i : Nat) (st : List xe_v) : Option (List xe_v) := match xe_lg lv i with
  | some a => if a.1 == 2 || a.1 == 3 || a.1 == 4 then some (a :: st) else none
  | none => none
def xe_get (x y : Nat) (st : List xe_v) (σ : xe_h) : Option (List xe_v) := match st with
  | a :: r => if a.1 == 3 then match xh_g σ a.2.1 with
      | some c => if c.1 == 0 && c.2.1 == x then match c.2.2.1[y]? with
          | some v => some (v :: r)
          | none => none
        else none
      | none => none
    else none
  | _ => none
def xe_alen (sc : List xe_v) (st : List xe_v) (σ : xe_h) : Option (List xe_v) := match st with
  | a :: r => if a.1 == 3 then match xh_g σ a.2.1 with
      | some c => if (c.1 == 1 || c.1 == 2 || c.1 == 3 || c.1 == 4) && Nat.ble c.2.1 2147483647 then some (xe_n (2147483648 + c.2.1) :: r) else none
      | none => none
    else if a.1 == 4 && Nat.ble 1 sc.length then some (xe_n (2147483648 + sc.length) :: r) else none
  | _ => none
/-- a place in a row: the index is known and within -/
def xe_ix (i : xe_v) (n : Nat) : Bool := i.1 == 0 && i.2.1 == i.2.2 && Nat.ble 2147483648 i.2.1 && Nat.ble (i.2.1 + 1) (2147483648 + n)
def xe_ald (k : Nat) (sc : List xe_v) (st : List xe_v) (σ : xe_h) : Option (List xe_v) := match st with
  | i :: a :: r => if a.1 == 3 then match xh_g σ a.2.1 with
      | some c => if c.1 == k && xe_ix i c.2.1 then xe_f (i.2.1 - 2147483648) (fun j => some (xe_ag c.2.2.2.2 c.2.2.2.1 j :: r)) else none
      | none => none
    else if a.1 == 4 && k == 1 && xe_ix i sc.length then match sc[i.2.1 - 2147483648]? with
      | some v => if v.1 == 0 then some (v :: r) else none
      | none => none
    else none
  | _ => none
def xe_max (x y : Int32) : Int32 := if x < y then y else x
def xe_min (x y : Int32) : Int32 := if y < x then y else x
def xe_abs (x : Int64) : Int64 := if 0 < x then x else -x
def xe_pf (I : Jvm.ClassFile.Instr) : Nat → List xe_v → Nat → Nat → List (Nat × xe_v) → List xe_v → xe_h → Option (List xe_v) := match I with
  | .iconst n => fun d sc x y lv st σ => xe_f (xe_i (Int32.ofInt n)) (fun k => some (xe_n k :: st))
  | .bipush n => fun d sc x y lv st σ => xe_f (xe_i (Int8.ofInt n).toInt32) (fun k => some (xe_n k :: st))
  | .sipush n => fun d sc x y lv st σ => xe_f (xe_i (Int16.ofInt n).toInt32) (fun k => some (xe_n k :: st))
  | .lconst n => fun d sc x y lv st σ => xe_f (xe_l (Int64.ofNat (n : Nat))) (fun k => some (xe_nl k :: st))
  | .ldc _ => fun d sc x y lv st σ => if x == 1 then none else some (xe_n y :: st)
  | .ldc_w _ => fun d sc x y lv st σ => if x == 1 then none else some (xe_n y :: st)
  | .ldc2_w _ => fun d sc x y lv st σ => some (xe_nl y :: st)
  | .aconst_null => fun d sc x y lv st σ => some ((2, 0, 0) :: st)
  | .iload i => fun d sc x y lv st σ => xe_ld 0 lv i st
  | .iload_n i => fun d sc x y lv st σ => xe_ld 0 lv (i : Nat) st
  | .lload i => fun d sc x y lv st σ => xe_ld 1 lv i st
  | .lload_n i => fun d sc x y lv st σ => xe_ld 1 lv (i : Nat) st
  | .aload i => fun d sc x y lv st σ => xe_la lv i st
  | .aload_n i => fun d sc x y lv st σ => xe_la lv (i : Nat) st
  | .iadd => fun d sc x y lv st σ => xe_u2 (fun a b => a + b) st
  | .isub => fun d sc x y lv st σ => xe_u2 (fun a b => a - b) st
  | .imul => fun d sc x y lv st σ => xe_u2 (fun a b => a * b) st
  | .idiv => fun d sc x y lv st σ => xe_d2 (fun a b => a / b) st
  | .irem => fun d sc x y lv st σ => xe_d2 (fun a b => a - a / b * b) st
  | .ineg => fun d sc x y lv st σ => xe_u1 (fun a => -a) 0 4294967295 st
  | .iand => fun d sc x y lv st σ => xe_u2 (fun a b => a &&& b) st
  | .ior => fun d sc x y lv st σ => xe_u2 (fun a b => a ||| b) st
  | .ixor => fun d sc x y lv st σ => xe_u2 (fun a b => a ^^^ b) st
  | .ishl => fun d sc x y lv st σ => xe_u2 (fun a b => a <<< (b &&& 31)) st
  | .ishr => fun d sc x y lv st σ => xe_u2 (fun a b => a >>> (b &&& 31)) st
  | .iushr => fun d sc x y lv st σ => xe_u2 (fun a b => (a.toUInt32 >>> (b.toUInt32 &&& Int32.toUInt32 31)).toInt32) st
  | .ladd => fun d sc x y lv st σ => xe_m2 (fun a b => a + b) st
  | .lsub => fun d sc x y lv st σ => xe_m2 (fun a b => a - b) st
  | .lmul => fun d sc x y lv st σ => xe_m2 (fun a b => a * b) st
  | .ldiv => fun d sc x y lv st σ => xe_e2 (fun a b => a / b) st
  | .lrem => fun d sc x y lv st σ => xe_e2 (fun a b => a - a / b * b) st
  | .lneg => fun d sc x y lv st σ => xe_m1 (fun a => -a) st
  | .lcmp => fun d sc x y lv st σ => xe_lli lg_cmp st
  | .i2l => fun d sc x y lv st σ => xe_il Int32.toInt64 st
  | .l2i => fun d sc x y lv st σ => xe_li Int64.toInt32 st
  | .i2b => fun d sc x y lv st σ => xe_u1 (fun a => a.toInt8.toInt32) 2147483520 2147483775 st
  | .i2c => fun d sc x y lv st σ => xe_u1 (fun a => (a.toUInt32 % 65536).toInt32) 0 4294967295 st
  | .dup => fun d sc x y lv st σ => match st with
    | a :: r => if a.1 == 1 then none else some (a :: a :: r)
    | _ => none
  | .dup2 => fun d sc x y lv st σ => match st with
    | a :: r => if a.1 == 1 then some (a :: a :: r) else match r with
      | b :: r => if b.1 == 1 then none else some (a :: b :: a :: b :: r)
      | _ => none
    | _ => none
  | .pop => fun d sc x y lv st σ => match st with
    | a :: r => if a.1 == 1 then none else some r
    | _ => none
  | .getfield _ => fun d sc x y lv st σ => xe_get x y st σ
  | .arraylength => fun d sc x y lv st σ => xe_alen sc st σ
  | .iaload => fun d sc x y lv st σ => xe_ald 1 sc st σ
  | .baload => fun d sc x y lv st σ => xe_ald 2 sc st σ
  | .laload => fun d sc x y lv st σ => xe_ald 3 sc st σ
  | .aaload => fun d sc x y lv st σ => xe_ald 4 sc st σ
  | .invokestatic _ => fun d sc x y lv st σ => if Nat.ble 1 d && Nat.ble (xe_sum st) 8 then (if x == 2 then xe_u2 xe_max st else if x == 3 then xe_u2 xe_min st else if x == 4 then xe_m1 xe_abs st else none) else none
  | .invokespecial _ => fun d sc x y lv st σ => if Nat.ble 1 d && x == 1 && Nat.ble (xe_sum st) 8 then match st with
    | a :: r => if a.1 == 3 then some r else none
    | _ => none
    else none
  | _ => fun d sc x y lv st σ => none
def xe_push (d : Nat) (sc : List xe_v) (I : Jvm.ClassFile.Instr) (x y : Nat) (lv : List (Nat × xe_v)) (st : List xe_v) (σ : xe_h) : Option (List xe_v) := xe_pf I d sc x y lv st σ
/-- where it goes on -/
def xe_tg (pc : Nat) (o : Int) (k : Nat → Option (List Nat × List xe_v)) : Option (List Nat × List xe_v) := if 0 ≤ (pc : Int) + o then xe_f ((pc : Int) + o).toNat k else none
def xe_bf (I : Jvm.ClassFile.Instr) : Nat → List xe_v → Option (List Nat × List xe_v) := match I with
  | .goto o => fun pc st => xe_tg pc o (fun t => some ([t], st))
  | .ifCond c o => fun pc st => match st with
    | a :: r => if a.1 == 0 then xe_tg pc o (fun t => some (xe_two (xe_cmp c a (xe_n 2147483648)) t (pc + 3), r)) else none
    | _ => none
  | .if_icmp c o => fun pc st => match st with
    | b :: a :: r => if a.1 == 0 && b.1 == 0 then xe_tg pc o (fun t => some (xe_two (xe_cmp c a b) t (pc + 3), r)) else none
    | _ => none
  | .ifnull o => fun pc st => match st with
    | a :: r => if a.1 == 2 then xe_tg pc o (fun t => some ([t], r)) else if a.1 == 3 then some ([pc + 3], r) else none
    | _ => none
  | .ifnonnull o => fun pc st => match st with
    | a :: r => if a.1 == 3 then xe_tg pc o (fun t => some ([t], r)) else if a.1 == 2 then some ([pc + 3], r) else none
    | _ => none
  | .tableswitch df lo hi os => fun pc st => match st with
    | a :: r => if a.1 == 0 then
        (if decide (((a.2.2 : Int) - 2147483648) < lo) || decide (hi < (a.2.1 : Int) - 2147483648) then xe_tg pc df (fun t => some ([t], r))
        else if a.2.1 == a.2.2 && decide (¬ ((a.2.1 : Int) - 2147483648) < lo) && decide (¬ hi < (a.2.1 : Int) - 2147483648) then match os[((a.2.1 : Int) - 2147483648 - lo).toNat]? with
          | some o => xe_tg pc o (fun t => some ([t], r))
          | none => none
        else none) else none
    | _ => none
  | _ => fun pc st => none
def xe_br (I : Jvm.ClassFile.Instr) (pc : Nat) (st : List xe_v) : Option (List Nat × List xe_v) := xe_bf I pc st
/-- stores into places of the frame; L places there are -/
def xe_t1 (L : Nat) (i : Nat) (lv : List (Nat × xe_v)) (st : List xe_v) (ok : xe_v → Bool) : Option (List (Nat × xe_v) × List xe_v) := match st with
  | a :: r => if ok a && Nat.ble (i + 1) L then xe_fl (xe_s1 lv i a) (fun l => some (l, r)) else none
  | _ => none
def xe_t2 (L : Nat) (i : Nat) (lv : List (Nat × xe_v)) (st : List xe_v) : Option (List (Nat × xe_v) × List xe_v) := match st with
  | a :: r => if a.1 == 1 && Nat.ble (i + 2) L then xe_fl (xe_s2 lv i a) (fun l => some (l, r)) else none
  | _ => none
def xe_of (I : Jvm.ClassFile.Instr) : Nat → List (Nat × xe_v) → List xe_v → Option (List (Nat × xe_v) × List xe_v) := match I with
  | .istore i => fun L lv st => xe_t1 L i lv st (fun a => a.1 == 0)
  | .istore_n i => fun L lv st => xe_t1 L (i : Nat) lv st (fun a => a.1 == 0)
  | .astore i => fun L lv st => xe_t1 L i lv st (fun a => a.1 == 2 || a.1 == 3)
  | .astore_n i => fun L lv st => xe_t1 L (i : Nat) lv st (fun a => a.1 == 2 || a.1 == 3)
  | .lstore i => fun L lv st => xe_t2 L i lv st
  | .lstore_n i => fun L lv st => xe_t2 L (i : Nat) lv st
  | .iinc i n => fun L lv st => match xe_lg lv i with
    | some a => if a.1 == 0 && Nat.ble (i + 1) L then
        (if a.2.1 == a.2.2 then xe_f (xe_i (xe_j a.2.1 + Int32.ofInt n)) (fun k => xe_fl (xe_s1 lv i (0, k, k)) (fun l => some (l, st)))
        else xe_fl (xe_s1 lv i (0, 0, 4294967295)) (fun l => some (l, st))) else none
    | none => none
  | _ => fun L lv st => none
def xe_sto (L : Nat) (I : Jvm.ClassFile.Instr) (lv : List (Nat × xe_v)) (st : List xe_v) : Option (List (Nat × xe_v) × List xe_v) := xe_of I L lv st
/-- stores into the world -/
def xe_put (x y : Nat) (st : List xe_v) (σ : xe_h) : Option (List xe_v × xe_h) := match st with
  | v :: a :: r => if a.1 == 3 && xe_fk (xk_ty x y) v then match xh_g σ a.2.1 with
      | some c => if c.1 == 0 && c.2.1 == x && Nat.ble (y + 1) c.2.2.1.length then xe_fl (c.2.2.1.set y v) (fun f => xh_k σ a.2.1 (0, x, f, c.2.2.2.1, c.2.2.2.2) (fun σ2 => some (r, σ2))) else none
      | none => none
    else none
  | _ => none
def xe_ast (k : Nat) (ok : xe_v → Bool) (st : List xe_v) (σ : xe_h) : Option (List xe_v × xe_h) := match st with
  | v :: i :: a :: r => if a.1 == 3 && ok v then match xh_g σ a.2.1 with
      | some c => if c.1 == k && xe_ix i c.2.1 then xe_f (i.2.1 - 2147483648) (fun j => xe_fl (xe_aw c.2.2.2.2 c.2.2.2.1 j v) (fun w => xh_k σ a.2.1 (k, c.2.1, c.2.2.1, c.2.2.2.1, w) (fun σ2 => some (r, σ2)))) else none
      | none => none
    else none
  | _ => none
def xe_acp (d : Nat) (st : List xe_v) (σ : xe_h) : Option (List xe_v × xe_h) := match st with
  | n :: dp :: a :: sp :: a0 :: r => if a.1 == 3 && a0.1 == 3 && Nat.ble 1 d && Nat.ble (xe_sum r) 8 then match xh_g σ a.2.1, xh_g σ a0.2.1 with
      | some c, some c0 => if c.1 == 1 && c0.1 == 1 && n.1 == 0 && dp.1 == 0 && sp.1 == 0 && n.2.1 == n.2.2 && dp.2.1 == dp.2.2 && sp.2.1 == sp.2.2 && Nat.ble 2147483648 n.2.1 && Nat.ble 2147483648 dp.2.1 && Nat.ble 2147483648 sp.2.1
          && Nat.ble ((sp.2.1 - 2147483648) + (n.2.1 - 2147483648)) c0.2.1 && Nat.ble ((dp.2.1 - 2147483648) + (n.2.1 - 2147483648)) c.2.1 then
          xe_fl (xe_ac c0.2.2.2.2 c0.2.2.2.1 (sp.2.1 - 2147483648) (dp.2.1 - 2147483648) (n.2.1 - 2147483648) c.2.2.2.2 c.2.2.2.1) (fun w => xh_k σ a.2.1 (1, c.2.1, c.2.2.1, c.2.2.2.1, w) (fun σ2 => some (r, σ2))) else none
      | _, _ => none
    else none
  | _ => none
def xe_slide (σ : xe_h) (v : xe_v) : Bool := v.1 == 3 && (match xh_g σ v.2.1 with
  | some c => c.1 == 0 && c.2.1 == 7
  | none => false)
def xe_wf (I : Jvm.ClassFile.Instr) : Nat → Nat → Nat → List xe_v → xe_h → Option (List xe_v × xe_h) := match I with
  | .putfield _ => fun d x y st σ => xe_put x y st σ
  | .iastore => fun d x y st σ => xe_ast 1 (fun v => v.1 == 0) st σ
  | .bastore => fun d x y st σ => xe_ast 2 (fun v => v.1 == 0 && Nat.ble 2147483520 v.2.1 && Nat.ble v.2.2 2147483775) st σ
  | .lastore => fun d x y st σ => xe_ast 3 (fun v => v.1 == 1) st σ
  | .aastore => fun d x y st σ => xe_ast 4 (xe_slide σ) st σ
  | .invokestatic _ => fun d x y st σ => if x == 5 then xe_acp d st σ else none
  | _ => fun d x y st σ => none
def xe_wr (d : Nat) (I : Jvm.ClassFile.Instr) (x y : Nat) (st : List xe_v) (σ : xe_h) : Option (List xe_v × xe_h) := xe_wf I d x y st σ
/-- new cells: how many words -/
def xe_df (x n : Nat) : List xe_v := (List.range n).map (fun k => xe_dv (xk_ty x k))
def xe_dk (t : FieldType) : Bool := match t with
  | .int | .long | .boolean | .object _ | .array _ => true
  | _ => false
def xe_al (I : Jvm.ClassFile.Instr) (x : Nat) (st : List xe_v) (σ : xe_h) : Option (List xe_v × xe_h × Nat) := if Nat.ble (σ.1 + 1) 512 then match I with
  | .new _ => match xk_cl[x]? with
    | some q => if (List.range q.2.2).all (fun k => xe_dk (xk_ty x k)) then xe_fl (xe_df x q.2.2) (fun f => xh_q σ (0, x, f, (2, 0, 0), []) (fun σ2 => some ((3, σ.1, 0) :: st, σ2, q.2.2))) else none
    | none => none
  | .newarray t => match st with
    | n :: r => if n.1 == 0 && n.2.1 == n.2.2 && Nat.ble 2147483648 n.2.1 && Nat.ble (n.2.1 - 2147483648) 67108864 then
        match t with
        | .int => xe_f (n.2.1 - 2147483648) (fun k => xh_q σ (1, k, [], (0, 2147483648, 2147483648), []) (fun σ2 => some ((3, σ.1, 0) :: r, σ2, k)))
        | .byte => xe_f (n.2.1 - 2147483648) (fun k => xh_q σ (2, k, [], (0, 2147483648, 2147483648), []) (fun σ2 => some ((3, σ.1, 0) :: r, σ2, k)))
        | .long => xe_f (n.2.1 - 2147483648) (fun k => xh_q σ (3, k, [], (1, 9223372036854775808, 9223372036854775808), []) (fun σ2 => some ((3, σ.1, 0) :: r, σ2, k)))
        | _ => none
      else none
    | _ => none
  | .anewarray _ => match st with
    | n :: r => if n.1 == 0 && n.2.1 == n.2.2 && Nat.ble 2147483648 n.2.1 && Nat.ble (n.2.1 - 2147483648) 67108864 then
        xe_f (n.2.1 - 2147483648) (fun k => xh_q σ (4, k, [], (2, 0, 0), []) (fun σ2 => some ((3, σ.1, 0) :: r, σ2, k)))
      else none
    | _ => none
  | _ => none
  else none
/-- the end: what is answered -/
def xe_ro (t : Option FieldType) (a : xe_v) : Bool := match t with
  | some .int => a.1 == 0
  | some .boolean => a.1 == 0 && Nat.ble 2147483648 a.2.1 && Nat.ble a.2.2 2147483649
  | _ => false
def xe_rl (t : Option FieldType) : Bool := match t with
  | some .long => true
  | _ => false
def xe_rr (t : Option FieldType) : Bool := match t with
  | some (.object _) => true
  | _ => false
def xe_ret (t : Option FieldType) (I : Jvm.ClassFile.Instr) (st : List xe_v) : Option (Option xe_v) := match I, st with
  | .ireturn, [a] => if xe_ro t a then some (some a) else none
  | .lreturn, [a] => if xe_rl t && a.1 == 1 then some (some a) else none
  | .areturn, [a] => if xe_rr t && (a.1 == 2 || a.1 == 3) then some (some a) else none
  | .return_, [] => if t.isNone then some none else none
  | _, _ => none
/-- a call: which method, with what, what is left -/
def xe_cal (I : Jvm.ClassFile.Instr) (x y : Nat) (st : List xe_v) (σ : xe_h) : Option (List xe_v × List xe_v) := match I with
  | .invokestatic _ => if (x == 0 || x == 1) && (xm y).2.2.2.2.2.2.2 == 0 && Nat.ble (xm y).2.2.2.2.2.1 st.length then some ((st.take (xm y).2.2.2.2.2.1).reverse, st.drop (xm y).2.2.2.2.2.1) else none
  | .invokevirtual _ => if x == 0 && (xm y).2.2.2.2.2.2.2 == 1 && Nat.ble (xm y).2.2.2.2.2.1 st.length then match st.drop (xm y).2.2.2.2.2.1 with
      | a :: r => if a.1 == 3 then match xh_g σ a.2.1 with
          | some c => if c.1 == 0 && c.2.1 == (xm y).2.2.2.2.2.2.1 then some (a :: (st.take (xm y).2.2.2.2.2.1).reverse, r) else none
          | none => none
        else none
      | _ => none
    else none
  | .invokespecial _ => if x == 0 && (xm y).2.2.2.2.2.2.2 == 2 && Nat.ble (xm y).2.2.2.2.2.1 st.length then match st.drop (xm y).2.2.2.2.2.1 with
      | a :: r => if a.1 == 3 then some (a :: (st.take (xm y).2.2.2.2.2.1).reverse, r) else none
      | _ => none
    else none
  | _ => none
def xe_all {α β : Type} (l : List α) (f : α → Option (List β)) : Option (List β) := match l with
  | [] => some []
  | a :: t => match f a with
    | some o => match xe_all t f with
      | some o2 => some (o ++ o2)
      | none => none
    | none => none
theorem xe_all_ok {α β : Type} {f : α → Option (List β)} : ∀ {l : List α} {o : List β}, xe_all l f = some o → ∀ a ∈ l, ∃ q : List β, f a = some q ∧ ∀ z ∈ q, z ∈ o
  | [], o, h, a, ha => absurd ha List.not_mem_nil
  | c :: t, o, h, a, ha => by
    unfold xe_all at h
    split at h
    · next o1 h1 =>
      split at h
      · next o2 h2 =>
        cases h
        rcases List.mem_cons.mp ha with e | e
        · subst e
          exact ⟨o1, h1, fun z hz => List.mem_append_left _ hz⟩
        · obtain ⟨q, q1, q2⟩ := xe_all_ok h2 a e
          exact ⟨q, q1, fun z hz => List.mem_append_right _ (q2 z hz)⟩
      · cases h
    · cases h
def xe_al1 {α β : Type} (l : List α) (f : α → Option (List β)) : Option (List β) := match l with
  | [a] => f a
  | l => xe_all l f
theorem xe_al1_ok {α β : Type} {f : α → Option (List β)} {l : List α} {o : List β} (h : xe_al1 l f = some o) : ∀ a ∈ l, ∃ q : List β, f a = some q ∧ ∀ z ∈ q, z ∈ o := by
  unfold xe_al1 at h
  split at h
  · intro a ha
    rw [List.mem_singleton.mp ha]
    exact ⟨o, h, fun _ z => z⟩
  · exact xe_all_ok h
/-- which of the steps it is -/
def xe_kd (I : Jvm.ClassFile.Instr) : Nat → Nat := match I with
  | .goto _ | .ifCond _ _ | .if_icmp _ _ | .ifnull _ | .ifnonnull _ | .tableswitch _ _ _ _ => fun _ => 1
  | .istore _ | .istore_n _ | .astore _ | .astore_n _ | .lstore _ | .lstore_n _ | .iinc _ _ => fun _ => 2
  | .invokevirtual _ => fun _ => 3
  | .invokestatic _ => fun x => if x == 0 || x == 1 then 3 else if x == 5 then 4 else 0
  | .invokespecial _ => fun x => if x == 1 then 0 else 3
  | .putfield _ | .iastore | .bastore | .lastore | .aastore => fun _ => 4
  | .ireturn | .lreturn | .areturn | .return_ => fun _ => 5
  | .new _ | .newarray _ | .anewarray _ => fun _ => 6
  | _ => fun _ => 0
abbrev xe_KT : Type := Nat → List (Nat × xe_v) → List xe_v → xe_h → Nat × Nat → Option (List xe_o)
abbrev xe_CT : Type := Nat → List xe_v → xe_h → Option (List xe_o)
abbrev xe_ST : Type := Nat → List xe_v → Nat → xe_KT → xe_CT → xe_I → Nat → List (Nat × xe_v) → List xe_v → xe_h → Nat × Nat → Option (List xe_o)
def xe_h0 : xe_ST := fun d sc _ K _ q pc lv st σ kc => match xe_push d sc q.1 q.2.2.1 q.2.2.2.1 lv st σ with
  | some st2 => xe_f (pc + q.2.1) (fun pc2 => K pc2 lv st2 σ kc)
  | none => none
def xe_h1 : xe_ST := fun _ _ _ K _ q pc lv st σ kc => match xe_br q.1 pc st with
  | some ts => xe_al1 ts.1 (fun t => K t lv ts.2 σ kc)
  | none => none
def xe_h2 : xe_ST := fun _ _ μ K _ q pc lv st σ kc => match xe_sto (xm μ).2.2.1 q.1 lv st with
  | some w => xe_f (pc + q.2.1) (fun pc2 => K pc2 w.1 w.2 σ kc)
  | none => none
def xe_h3 : xe_ST := fun d _ μ K call q pc lv st σ kc => match xe_cal q.1 q.2.2.1 q.2.2.2.1 st σ with
  | some ar => if Nat.ble 1 d && Nat.ble (xe_sum ar.2) 8 && Nat.ble (xe_sum ar.1) (xm q.2.2.2.1).2.2.1 && Nat.ble (kc.1 + (xm q.2.2.2.1).2.2.2.2.1.1) (xm μ).2.2.2.2.1.1 && Nat.ble (kc.2 + (xm q.2.2.2.1).2.2.2.2.1.2) (xm μ).2.2.2.2.1.2 then
      (match call q.2.2.2.1 ar.1 σ with
      | some os => xe_al1 os (fun o => xe_f (pc + 3) (fun pc2 => K pc2 lv (o.1.toList ++ ar.2) o.2 (kc.1 + (xm q.2.2.2.1).2.2.2.2.1.1, kc.2 + (xm q.2.2.2.1).2.2.2.2.1.2)))
      | none => none) else none
  | none => none
def xe_h4 : xe_ST := fun d _ _ K _ q pc lv st σ kc => match xe_wr d q.1 q.2.2.1 q.2.2.2.1 st σ with
  | some w => xe_f (pc + q.2.1) (fun pc2 => K pc2 lv w.1 w.2 kc)
  | none => none
def xe_h5 : xe_ST := fun _ _ μ _ _ q _ _ st σ kc => match xe_ret (xm μ).2.2.2.1 q.1 st with
  | some r => if Nat.ble kc.1 (xm μ).2.2.2.2.1.1 && Nat.ble kc.2 (xm μ).2.2.2.2.1.2 then some [(r, σ)] else none
  | none => none
def xe_h6 : xe_ST := fun _ _ μ K _ q pc lv st σ kc => match xe_al q.1 q.2.2.1 st σ with
  | some w => if Nat.ble (kc.1 + 1) (xm μ).2.2.2.2.1.1 && Nat.ble (kc.2 + w.2.2) (xm μ).2.2.2.2.1.2 then xe_f (pc + q.2.1) (fun pc2 => K pc2 lv w.1 w.2.1 (kc.1 + 1, kc.2 + w.2.2)) else none
  | none => none
def xe_sd (k : Nat) : xe_ST := match k with
  | 0 => xe_h0
  | 1 => xe_h1
  | 2 => xe_h2
  | 3 => xe_h3
  | 4 => xe_h4
  | 5 => xe_h5
  | _ => xe_h6
/-- one step, with what goes on behind it handed in -/
def xe_step (d : Nat) (sc : List xe_v) (μ : Nat) (K : xe_KT) (call : xe_CT) (q : xe_I) (pc : Nat) (lv : List (Nat × xe_v)) (st : List xe_v) (σ : xe_h) (kc : Nat × Nat) : Option (List xe_o) := xe_sd (xe_kd q.1 q.2.2.1) d sc μ K call q pc lv st σ kc
def xe_run : Nat → Nat → List xe_v → Nat → List (List (Option xe_I)) → Nat → List (Nat × xe_v) → List xe_v → xe_h → Nat × Nat → Option (List xe_o)
  | 0, _, _, _, _, _, _, _, _, _ => none
  | n + 1, d, sc, μ, cd, pc, lv, st, σ, kc => match xe_look cd pc with
    | some q => xe_step d sc μ (fun pc2 lv2 st2 σ2 kc2 => xe_run n d sc μ cd pc2 lv2 st2 σ2 kc2) (fun y vs σ2 => xe_run n (d - 1) [] y (xc y) 0 (xe_ar 0 vs) [] σ2 (0, 0)) q pc lv st σ kc
    | none => none
