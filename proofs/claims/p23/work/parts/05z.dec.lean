/-! decoding, by the bytes that spell an instruction -/
def xB (code : ByteArray) (k b : Nat) : Prop := ∃ a : UInt8, code.data.toList[k]? = some a ∧ a.toNat = b
theorem rd_b {α β : Type} (m : Jvm.ClassFile.Decoder α) (K : α → Jvm.ClassFile.Decoder β) (code : ByteArray) (k : Nat) {a : α} {k2 : Nat} (h : m code k = Except.ok (a, k2)) : (m >>= K) code k = K a code k2 := by
  show (Except.bind (m code k) (fun p => K p.1 code p.2)) = _
  rw [h]
  rfl
theorem u1_ok {code : ByteArray} {k b : Nat} (h : xB code k b) : (Jvm.ClassFile.Reader.u1 : Jvm.ClassFile.Decoder Nat) code k = Except.ok (b, k + 1) := by
  obtain ⟨a, h1, h2⟩ := h
  obtain ⟨hk, h3⟩ := List.getElem?_eq_some_iff.mp h1
  have hs : k < code.size := by
    rw [Array.length_toList] at hk
    exact hk
  have hv : (code[k]'hs).toNat = b := by
    rw [← h2, ← h3]
    rfl
  show (dite (k < code.size) (fun h => (do set (k + 1); pure (code[k]'h).toNat : Jvm.ClassFile.Decoder Nat)) (fun _ => throw (Jvm.ClassFile.HasTruncated.truncated k))) code k = _
  rw [dif_pos hs, ← hv]
  rfl
theorem u2_ok {code : ByteArray} {k a b : Nat} (h1 : xB code k a) (h2 : xB code (k + 1) b) : (Jvm.ClassFile.Reader.u2 : Jvm.ClassFile.Decoder Nat) code k = Except.ok (a * 256 + b, k + 2) := by
  unfold Jvm.ClassFile.Reader.u2
  rw [rd_b _ _ _ _ (u1_ok h1), rd_b _ _ _ _ (u1_ok h2)]
  rfl
theorem s1_ok {code : ByteArray} {k a : Nat} (h1 : xB code k a) : (Jvm.ClassFile.Reader.s1 : Jvm.ClassFile.Decoder Int) code k = Except.ok (Jvm.ClassFile.Reader.signed 8 a, k + 1) := by
  show (Except.bind ((Jvm.ClassFile.Reader.u1 : Jvm.ClassFile.Decoder Nat) code k) (fun p => Except.ok (Jvm.ClassFile.Reader.signed 8 p.1, p.2))) = _
  rw [u1_ok h1]
  rfl
theorem s2_ok {code : ByteArray} {k a b : Nat} (h1 : xB code k a) (h2 : xB code (k + 1) b) : (Jvm.ClassFile.Reader.s2 : Jvm.ClassFile.Decoder Int) code k = Except.ok (Jvm.ClassFile.Reader.signed 16 (a * 256 + b), k + 2) := by
  show (Except.bind ((Jvm.ClassFile.Reader.u2 : Jvm.ClassFile.Decoder Nat) code k) (fun p => Except.ok (Jvm.ClassFile.Reader.signed 16 p.1, p.2))) = _
  rw [u2_ok h1 h2]
  rfl
theorem dc_of {code : ByteArray} {pc n : Nat} {I : Jvm.ClassFile.Instr} (h : (Jvm.ClassFile.Decoder.instr pc) code pc = Except.ok (I, pc + n)) : decode code pc = .ok (I, n) := by
  show (Except.bind ((Jvm.ClassFile.Decoder.instr pc) code pc) (fun p => Except.ok (p.1, p.2 - pc))) = _
  rw [h]
  show Except.ok (I, pc + n - pc) = _
  rw [Nat.add_sub_cancel_left]
set_option maxRecDepth 100000
section OPS
variable {code : ByteArray} {pc : Nat}
theorem oc_aaload (h : xB code pc 50) : (Jvm.ClassFile.Decoder.instr pc) code pc = Except.ok (.aaload, pc + 1) := (rd_b _ _ code pc (u1_ok h)).trans rfl
theorem oc_aastore (h : xB code pc 83) : (Jvm.ClassFile.Decoder.instr pc) code pc = Except.ok (.aastore, pc + 1) := (rd_b _ _ code pc (u1_ok h)).trans rfl
theorem oc_aconst_null (h : xB code pc 1) : (Jvm.ClassFile.Decoder.instr pc) code pc = Except.ok (.aconst_null, pc + 1) := (rd_b _ _ code pc (u1_ok h)).trans rfl
theorem oc_areturn (h : xB code pc 176) : (Jvm.ClassFile.Decoder.instr pc) code pc = Except.ok (.areturn, pc + 1) := (rd_b _ _ code pc (u1_ok h)).trans rfl
theorem oc_arraylength (h : xB code pc 190) : (Jvm.ClassFile.Decoder.instr pc) code pc = Except.ok (.arraylength, pc + 1) := (rd_b _ _ code pc (u1_ok h)).trans rfl
theorem oc_baload (h : xB code pc 51) : (Jvm.ClassFile.Decoder.instr pc) code pc = Except.ok (.baload, pc + 1) := (rd_b _ _ code pc (u1_ok h)).trans rfl
theorem oc_bastore (h : xB code pc 84) : (Jvm.ClassFile.Decoder.instr pc) code pc = Except.ok (.bastore, pc + 1) := (rd_b _ _ code pc (u1_ok h)).trans rfl
theorem oc_dup (h : xB code pc 89) : (Jvm.ClassFile.Decoder.instr pc) code pc = Except.ok (.dup, pc + 1) := (rd_b _ _ code pc (u1_ok h)).trans rfl
theorem oc_dup2 (h : xB code pc 92) : (Jvm.ClassFile.Decoder.instr pc) code pc = Except.ok (.dup2, pc + 1) := (rd_b _ _ code pc (u1_ok h)).trans rfl
theorem oc_i2b (h : xB code pc 145) : (Jvm.ClassFile.Decoder.instr pc) code pc = Except.ok (.i2b, pc + 1) := (rd_b _ _ code pc (u1_ok h)).trans rfl
theorem oc_i2c (h : xB code pc 146) : (Jvm.ClassFile.Decoder.instr pc) code pc = Except.ok (.i2c, pc + 1) := (rd_b _ _ code pc (u1_ok h)).trans rfl
theorem oc_i2l (h : xB code pc 133) : (Jvm.ClassFile.Decoder.instr pc) code pc = Except.ok (.i2l, pc + 1) := (rd_b _ _ code pc (u1_ok h)).trans rfl
theorem oc_iadd (h : xB code pc 96) : (Jvm.ClassFile.Decoder.instr pc) code pc = Except.ok (.iadd, pc + 1) := (rd_b _ _ code pc (u1_ok h)).trans rfl
theorem oc_iaload (h : xB code pc 46) : (Jvm.ClassFile.Decoder.instr pc) code pc = Except.ok (.iaload, pc + 1) := (rd_b _ _ code pc (u1_ok h)).trans rfl
theorem oc_iand (h : xB code pc 126) : (Jvm.ClassFile.Decoder.instr pc) code pc = Except.ok (.iand, pc + 1) := (rd_b _ _ code pc (u1_ok h)).trans rfl
theorem oc_iastore (h : xB code pc 79) : (Jvm.ClassFile.Decoder.instr pc) code pc = Except.ok (.iastore, pc + 1) := (rd_b _ _ code pc (u1_ok h)).trans rfl
theorem oc_idiv (h : xB code pc 108) : (Jvm.ClassFile.Decoder.instr pc) code pc = Except.ok (.idiv, pc + 1) := (rd_b _ _ code pc (u1_ok h)).trans rfl
theorem oc_imul (h : xB code pc 104) : (Jvm.ClassFile.Decoder.instr pc) code pc = Except.ok (.imul, pc + 1) := (rd_b _ _ code pc (u1_ok h)).trans rfl
theorem oc_ineg (h : xB code pc 116) : (Jvm.ClassFile.Decoder.instr pc) code pc = Except.ok (.ineg, pc + 1) := (rd_b _ _ code pc (u1_ok h)).trans rfl
theorem oc_ior (h : xB code pc 128) : (Jvm.ClassFile.Decoder.instr pc) code pc = Except.ok (.ior, pc + 1) := (rd_b _ _ code pc (u1_ok h)).trans rfl
theorem oc_irem (h : xB code pc 112) : (Jvm.ClassFile.Decoder.instr pc) code pc = Except.ok (.irem, pc + 1) := (rd_b _ _ code pc (u1_ok h)).trans rfl
theorem oc_ireturn (h : xB code pc 172) : (Jvm.ClassFile.Decoder.instr pc) code pc = Except.ok (.ireturn, pc + 1) := (rd_b _ _ code pc (u1_ok h)).trans rfl
theorem oc_ishl (h : xB code pc 120) : (Jvm.ClassFile.Decoder.instr pc) code pc = Except.ok (.ishl, pc + 1) := (rd_b _ _ code pc (u1_ok h)).trans rfl
theorem oc_ishr (h : xB code pc 122) : (Jvm.ClassFile.Decoder.instr pc) code pc = Except.ok (.ishr, pc + 1) := (rd_b _ _ code pc (u1_ok h)).trans rfl
theorem oc_isub (h : xB code pc 100) : (Jvm.ClassFile.Decoder.instr pc) code pc = Except.ok (.isub, pc + 1) := (rd_b _ _ code pc (u1_ok h)).trans rfl
theorem oc_iushr (h : xB code pc 124) : (Jvm.ClassFile.Decoder.instr pc) code pc = Except.ok (.iushr, pc + 1) := (rd_b _ _ code pc (u1_ok h)).trans rfl
theorem oc_ixor (h : xB code pc 130) : (Jvm.ClassFile.Decoder.instr pc) code pc = Except.ok (.ixor, pc + 1) := (rd_b _ _ code pc (u1_ok h)).trans rfl
theorem oc_l2i (h : xB code pc 136) : (Jvm.ClassFile.Decoder.instr pc) code pc = Except.ok (.l2i, pc + 1) := (rd_b _ _ code pc (u1_ok h)).trans rfl
theorem oc_ladd (h : xB code pc 97) : (Jvm.ClassFile.Decoder.instr pc) code pc = Except.ok (.ladd, pc + 1) := (rd_b _ _ code pc (u1_ok h)).trans rfl
theorem oc_laload (h : xB code pc 47) : (Jvm.ClassFile.Decoder.instr pc) code pc = Except.ok (.laload, pc + 1) := (rd_b _ _ code pc (u1_ok h)).trans rfl
theorem oc_lastore (h : xB code pc 80) : (Jvm.ClassFile.Decoder.instr pc) code pc = Except.ok (.lastore, pc + 1) := (rd_b _ _ code pc (u1_ok h)).trans rfl
theorem oc_lcmp (h : xB code pc 148) : (Jvm.ClassFile.Decoder.instr pc) code pc = Except.ok (.lcmp, pc + 1) := (rd_b _ _ code pc (u1_ok h)).trans rfl
theorem oc_ldiv (h : xB code pc 109) : (Jvm.ClassFile.Decoder.instr pc) code pc = Except.ok (.ldiv, pc + 1) := (rd_b _ _ code pc (u1_ok h)).trans rfl
theorem oc_lmul (h : xB code pc 105) : (Jvm.ClassFile.Decoder.instr pc) code pc = Except.ok (.lmul, pc + 1) := (rd_b _ _ code pc (u1_ok h)).trans rfl
theorem oc_lneg (h : xB code pc 117) : (Jvm.ClassFile.Decoder.instr pc) code pc = Except.ok (.lneg, pc + 1) := (rd_b _ _ code pc (u1_ok h)).trans rfl
theorem oc_lrem (h : xB code pc 113) : (Jvm.ClassFile.Decoder.instr pc) code pc = Except.ok (.lrem, pc + 1) := (rd_b _ _ code pc (u1_ok h)).trans rfl
theorem oc_lreturn (h : xB code pc 173) : (Jvm.ClassFile.Decoder.instr pc) code pc = Except.ok (.lreturn, pc + 1) := (rd_b _ _ code pc (u1_ok h)).trans rfl
theorem oc_lsub (h : xB code pc 101) : (Jvm.ClassFile.Decoder.instr pc) code pc = Except.ok (.lsub, pc + 1) := (rd_b _ _ code pc (u1_ok h)).trans rfl
theorem oc_pop (h : xB code pc 87) : (Jvm.ClassFile.Decoder.instr pc) code pc = Except.ok (.pop, pc + 1) := (rd_b _ _ code pc (u1_ok h)).trans rfl
theorem oc_pop2 (h : xB code pc 88) : (Jvm.ClassFile.Decoder.instr pc) code pc = Except.ok (.pop2, pc + 1) := (rd_b _ _ code pc (u1_ok h)).trans rfl
theorem oc_return_ (h : xB code pc 177) : (Jvm.ClassFile.Decoder.instr pc) code pc = Except.ok (.return_, pc + 1) := (rd_b _ _ code pc (u1_ok h)).trans rfl
theorem oc_iload_n0 (h : xB code pc 26) : (Jvm.ClassFile.Decoder.instr pc) code pc = Except.ok (.iload_n 0, pc + 1) := (rd_b _ _ code pc (u1_ok h)).trans rfl
theorem oc_iload_n1 (h : xB code pc 27) : (Jvm.ClassFile.Decoder.instr pc) code pc = Except.ok (.iload_n 1, pc + 1) := (rd_b _ _ code pc (u1_ok h)).trans rfl
theorem oc_iload_n2 (h : xB code pc 28) : (Jvm.ClassFile.Decoder.instr pc) code pc = Except.ok (.iload_n 2, pc + 1) := (rd_b _ _ code pc (u1_ok h)).trans rfl
theorem oc_iload_n3 (h : xB code pc 29) : (Jvm.ClassFile.Decoder.instr pc) code pc = Except.ok (.iload_n 3, pc + 1) := (rd_b _ _ code pc (u1_ok h)).trans rfl
theorem oc_lload_n0 (h : xB code pc 30) : (Jvm.ClassFile.Decoder.instr pc) code pc = Except.ok (.lload_n 0, pc + 1) := (rd_b _ _ code pc (u1_ok h)).trans rfl
theorem oc_lload_n1 (h : xB code pc 31) : (Jvm.ClassFile.Decoder.instr pc) code pc = Except.ok (.lload_n 1, pc + 1) := (rd_b _ _ code pc (u1_ok h)).trans rfl
theorem oc_lload_n2 (h : xB code pc 32) : (Jvm.ClassFile.Decoder.instr pc) code pc = Except.ok (.lload_n 2, pc + 1) := (rd_b _ _ code pc (u1_ok h)).trans rfl
theorem oc_lload_n3 (h : xB code pc 33) : (Jvm.ClassFile.Decoder.instr pc) code pc = Except.ok (.lload_n 3, pc + 1) := (rd_b _ _ code pc (u1_ok h)).trans rfl
theorem oc_aload_n0 (h : xB code pc 42) : (Jvm.ClassFile.Decoder.instr pc) code pc = Except.ok (.aload_n 0, pc + 1) := (rd_b _ _ code pc (u1_ok h)).trans rfl
theorem oc_aload_n1 (h : xB code pc 43) : (Jvm.ClassFile.Decoder.instr pc) code pc = Except.ok (.aload_n 1, pc + 1) := (rd_b _ _ code pc (u1_ok h)).trans rfl
theorem oc_aload_n2 (h : xB code pc 44) : (Jvm.ClassFile.Decoder.instr pc) code pc = Except.ok (.aload_n 2, pc + 1) := (rd_b _ _ code pc (u1_ok h)).trans rfl
theorem oc_aload_n3 (h : xB code pc 45) : (Jvm.ClassFile.Decoder.instr pc) code pc = Except.ok (.aload_n 3, pc + 1) := (rd_b _ _ code pc (u1_ok h)).trans rfl
theorem oc_istore_n0 (h : xB code pc 59) : (Jvm.ClassFile.Decoder.instr pc) code pc = Except.ok (.istore_n 0, pc + 1) := (rd_b _ _ code pc (u1_ok h)).trans rfl
theorem oc_istore_n1 (h : xB code pc 60) : (Jvm.ClassFile.Decoder.instr pc) code pc = Except.ok (.istore_n 1, pc + 1) := (rd_b _ _ code pc (u1_ok h)).trans rfl
theorem oc_istore_n2 (h : xB code pc 61) : (Jvm.ClassFile.Decoder.instr pc) code pc = Except.ok (.istore_n 2, pc + 1) := (rd_b _ _ code pc (u1_ok h)).trans rfl
theorem oc_istore_n3 (h : xB code pc 62) : (Jvm.ClassFile.Decoder.instr pc) code pc = Except.ok (.istore_n 3, pc + 1) := (rd_b _ _ code pc (u1_ok h)).trans rfl
theorem oc_lstore_n0 (h : xB code pc 63) : (Jvm.ClassFile.Decoder.instr pc) code pc = Except.ok (.lstore_n 0, pc + 1) := (rd_b _ _ code pc (u1_ok h)).trans rfl
theorem oc_lstore_n1 (h : xB code pc 64) : (Jvm.ClassFile.Decoder.instr pc) code pc = Except.ok (.lstore_n 1, pc + 1) := (rd_b _ _ code pc (u1_ok h)).trans rfl
theorem oc_lstore_n2 (h : xB code pc 65) : (Jvm.ClassFile.Decoder.instr pc) code pc = Except.ok (.lstore_n 2, pc + 1) := (rd_b _ _ code pc (u1_ok h)).trans rfl
theorem oc_lstore_n3 (h : xB code pc 66) : (Jvm.ClassFile.Decoder.instr pc) code pc = Except.ok (.lstore_n 3, pc + 1) := (rd_b _ _ code pc (u1_ok h)).trans rfl
theorem oc_astore_n0 (h : xB code pc 75) : (Jvm.ClassFile.Decoder.instr pc) code pc = Except.ok (.astore_n 0, pc + 1) := (rd_b _ _ code pc (u1_ok h)).trans rfl
theorem oc_astore_n1 (h : xB code pc 76) : (Jvm.ClassFile.Decoder.instr pc) code pc = Except.ok (.astore_n 1, pc + 1) := (rd_b _ _ code pc (u1_ok h)).trans rfl
theorem oc_astore_n2 (h : xB code pc 77) : (Jvm.ClassFile.Decoder.instr pc) code pc = Except.ok (.astore_n 2, pc + 1) := (rd_b _ _ code pc (u1_ok h)).trans rfl
theorem oc_astore_n3 (h : xB code pc 78) : (Jvm.ClassFile.Decoder.instr pc) code pc = Except.ok (.astore_n 3, pc + 1) := (rd_b _ _ code pc (u1_ok h)).trans rfl
theorem oc_iconst0 (h : xB code pc 2) : (Jvm.ClassFile.Decoder.instr pc) code pc = Except.ok (.iconst (-1), pc + 1) := (rd_b _ _ code pc (u1_ok h)).trans rfl
theorem oc_iconst1 (h : xB code pc 3) : (Jvm.ClassFile.Decoder.instr pc) code pc = Except.ok (.iconst 0, pc + 1) := (rd_b _ _ code pc (u1_ok h)).trans rfl
theorem oc_iconst2 (h : xB code pc 4) : (Jvm.ClassFile.Decoder.instr pc) code pc = Except.ok (.iconst 1, pc + 1) := (rd_b _ _ code pc (u1_ok h)).trans rfl
theorem oc_iconst3 (h : xB code pc 5) : (Jvm.ClassFile.Decoder.instr pc) code pc = Except.ok (.iconst 2, pc + 1) := (rd_b _ _ code pc (u1_ok h)).trans rfl
theorem oc_iconst4 (h : xB code pc 6) : (Jvm.ClassFile.Decoder.instr pc) code pc = Except.ok (.iconst 3, pc + 1) := (rd_b _ _ code pc (u1_ok h)).trans rfl
theorem oc_iconst5 (h : xB code pc 7) : (Jvm.ClassFile.Decoder.instr pc) code pc = Except.ok (.iconst 4, pc + 1) := (rd_b _ _ code pc (u1_ok h)).trans rfl
theorem oc_iconst6 (h : xB code pc 8) : (Jvm.ClassFile.Decoder.instr pc) code pc = Except.ok (.iconst 5, pc + 1) := (rd_b _ _ code pc (u1_ok h)).trans rfl
theorem oc_lconst0 (h : xB code pc 9) : (Jvm.ClassFile.Decoder.instr pc) code pc = Except.ok (.lconst 0, pc + 1) := (rd_b _ _ code pc (u1_ok h)).trans rfl
theorem oc_lconst1 (h : xB code pc 10) : (Jvm.ClassFile.Decoder.instr pc) code pc = Except.ok (.lconst 1, pc + 1) := (rd_b _ _ code pc (u1_ok h)).trans rfl
theorem oc_ldc (h : xB code pc 18) {v : Nat} (hv : (Jvm.ClassFile.Reader.u1 : Jvm.ClassFile.Decoder Nat) code (pc + 1) = Except.ok (v, pc + 2)) : (Jvm.ClassFile.Decoder.instr pc) code pc = Except.ok (Jvm.ClassFile.Instr.ldc v, pc + 2) := (rd_b _ _ code pc (u1_ok h)).trans (rd_b (Jvm.ClassFile.Reader.u1 : Jvm.ClassFile.Decoder Nat) (fun v => pure (Jvm.ClassFile.Instr.ldc v)) _ _ hv)
theorem oc_iload (h : xB code pc 21) {v : Nat} (hv : (Jvm.ClassFile.Reader.u1 : Jvm.ClassFile.Decoder Nat) code (pc + 1) = Except.ok (v, pc + 2)) : (Jvm.ClassFile.Decoder.instr pc) code pc = Except.ok (Jvm.ClassFile.Instr.iload v, pc + 2) := (rd_b _ _ code pc (u1_ok h)).trans (rd_b (Jvm.ClassFile.Reader.u1 : Jvm.ClassFile.Decoder Nat) (fun v => pure (Jvm.ClassFile.Instr.iload v)) _ _ hv)
theorem oc_lload (h : xB code pc 22) {v : Nat} (hv : (Jvm.ClassFile.Reader.u1 : Jvm.ClassFile.Decoder Nat) code (pc + 1) = Except.ok (v, pc + 2)) : (Jvm.ClassFile.Decoder.instr pc) code pc = Except.ok (Jvm.ClassFile.Instr.lload v, pc + 2) := (rd_b _ _ code pc (u1_ok h)).trans (rd_b (Jvm.ClassFile.Reader.u1 : Jvm.ClassFile.Decoder Nat) (fun v => pure (Jvm.ClassFile.Instr.lload v)) _ _ hv)
theorem oc_aload (h : xB code pc 25) {v : Nat} (hv : (Jvm.ClassFile.Reader.u1 : Jvm.ClassFile.Decoder Nat) code (pc + 1) = Except.ok (v, pc + 2)) : (Jvm.ClassFile.Decoder.instr pc) code pc = Except.ok (Jvm.ClassFile.Instr.aload v, pc + 2) := (rd_b _ _ code pc (u1_ok h)).trans (rd_b (Jvm.ClassFile.Reader.u1 : Jvm.ClassFile.Decoder Nat) (fun v => pure (Jvm.ClassFile.Instr.aload v)) _ _ hv)
theorem oc_istore (h : xB code pc 54) {v : Nat} (hv : (Jvm.ClassFile.Reader.u1 : Jvm.ClassFile.Decoder Nat) code (pc + 1) = Except.ok (v, pc + 2)) : (Jvm.ClassFile.Decoder.instr pc) code pc = Except.ok (Jvm.ClassFile.Instr.istore v, pc + 2) := (rd_b _ _ code pc (u1_ok h)).trans (rd_b (Jvm.ClassFile.Reader.u1 : Jvm.ClassFile.Decoder Nat) (fun v => pure (Jvm.ClassFile.Instr.istore v)) _ _ hv)
theorem oc_lstore (h : xB code pc 55) {v : Nat} (hv : (Jvm.ClassFile.Reader.u1 : Jvm.ClassFile.Decoder Nat) code (pc + 1) = Except.ok (v, pc + 2)) : (Jvm.ClassFile.Decoder.instr pc) code pc = Except.ok (Jvm.ClassFile.Instr.lstore v, pc + 2) := (rd_b _ _ code pc (u1_ok h)).trans (rd_b (Jvm.ClassFile.Reader.u1 : Jvm.ClassFile.Decoder Nat) (fun v => pure (Jvm.ClassFile.Instr.lstore v)) _ _ hv)
theorem oc_astore (h : xB code pc 58) {v : Nat} (hv : (Jvm.ClassFile.Reader.u1 : Jvm.ClassFile.Decoder Nat) code (pc + 1) = Except.ok (v, pc + 2)) : (Jvm.ClassFile.Decoder.instr pc) code pc = Except.ok (Jvm.ClassFile.Instr.astore v, pc + 2) := (rd_b _ _ code pc (u1_ok h)).trans (rd_b (Jvm.ClassFile.Reader.u1 : Jvm.ClassFile.Decoder Nat) (fun v => pure (Jvm.ClassFile.Instr.astore v)) _ _ hv)
theorem oc_ldc_w (h : xB code pc 19) {v : Nat} (hv : (Jvm.ClassFile.Reader.u2 : Jvm.ClassFile.Decoder Nat) code (pc + 1) = Except.ok (v, pc + 3)) : (Jvm.ClassFile.Decoder.instr pc) code pc = Except.ok (Jvm.ClassFile.Instr.ldc_w v, pc + 3) := (rd_b _ _ code pc (u1_ok h)).trans (rd_b (Jvm.ClassFile.Reader.u2 : Jvm.ClassFile.Decoder Nat) (fun v => pure (Jvm.ClassFile.Instr.ldc_w v)) _ _ hv)
theorem oc_ldc2_w (h : xB code pc 20) {v : Nat} (hv : (Jvm.ClassFile.Reader.u2 : Jvm.ClassFile.Decoder Nat) code (pc + 1) = Except.ok (v, pc + 3)) : (Jvm.ClassFile.Decoder.instr pc) code pc = Except.ok (Jvm.ClassFile.Instr.ldc2_w v, pc + 3) := (rd_b _ _ code pc (u1_ok h)).trans (rd_b (Jvm.ClassFile.Reader.u2 : Jvm.ClassFile.Decoder Nat) (fun v => pure (Jvm.ClassFile.Instr.ldc2_w v)) _ _ hv)
theorem oc_getfield (h : xB code pc 180) {v : Nat} (hv : (Jvm.ClassFile.Reader.u2 : Jvm.ClassFile.Decoder Nat) code (pc + 1) = Except.ok (v, pc + 3)) : (Jvm.ClassFile.Decoder.instr pc) code pc = Except.ok (Jvm.ClassFile.Instr.getfield v, pc + 3) := (rd_b _ _ code pc (u1_ok h)).trans (rd_b (Jvm.ClassFile.Reader.u2 : Jvm.ClassFile.Decoder Nat) (fun v => pure (Jvm.ClassFile.Instr.getfield v)) _ _ hv)
theorem oc_putfield (h : xB code pc 181) {v : Nat} (hv : (Jvm.ClassFile.Reader.u2 : Jvm.ClassFile.Decoder Nat) code (pc + 1) = Except.ok (v, pc + 3)) : (Jvm.ClassFile.Decoder.instr pc) code pc = Except.ok (Jvm.ClassFile.Instr.putfield v, pc + 3) := (rd_b _ _ code pc (u1_ok h)).trans (rd_b (Jvm.ClassFile.Reader.u2 : Jvm.ClassFile.Decoder Nat) (fun v => pure (Jvm.ClassFile.Instr.putfield v)) _ _ hv)
theorem oc_invokevirtual (h : xB code pc 182) {v : Nat} (hv : (Jvm.ClassFile.Reader.u2 : Jvm.ClassFile.Decoder Nat) code (pc + 1) = Except.ok (v, pc + 3)) : (Jvm.ClassFile.Decoder.instr pc) code pc = Except.ok (Jvm.ClassFile.Instr.invokevirtual v, pc + 3) := (rd_b _ _ code pc (u1_ok h)).trans (rd_b (Jvm.ClassFile.Reader.u2 : Jvm.ClassFile.Decoder Nat) (fun v => pure (Jvm.ClassFile.Instr.invokevirtual v)) _ _ hv)
theorem oc_invokespecial (h : xB code pc 183) {v : Nat} (hv : (Jvm.ClassFile.Reader.u2 : Jvm.ClassFile.Decoder Nat) code (pc + 1) = Except.ok (v, pc + 3)) : (Jvm.ClassFile.Decoder.instr pc) code pc = Except.ok (Jvm.ClassFile.Instr.invokespecial v, pc + 3) := (rd_b _ _ code pc (u1_ok h)).trans (rd_b (Jvm.ClassFile.Reader.u2 : Jvm.ClassFile.Decoder Nat) (fun v => pure (Jvm.ClassFile.Instr.invokespecial v)) _ _ hv)
theorem oc_invokestatic (h : xB code pc 184) {v : Nat} (hv : (Jvm.ClassFile.Reader.u2 : Jvm.ClassFile.Decoder Nat) code (pc + 1) = Except.ok (v, pc + 3)) : (Jvm.ClassFile.Decoder.instr pc) code pc = Except.ok (Jvm.ClassFile.Instr.invokestatic v, pc + 3) := (rd_b _ _ code pc (u1_ok h)).trans (rd_b (Jvm.ClassFile.Reader.u2 : Jvm.ClassFile.Decoder Nat) (fun v => pure (Jvm.ClassFile.Instr.invokestatic v)) _ _ hv)
theorem oc_new (h : xB code pc 187) {v : Nat} (hv : (Jvm.ClassFile.Reader.u2 : Jvm.ClassFile.Decoder Nat) code (pc + 1) = Except.ok (v, pc + 3)) : (Jvm.ClassFile.Decoder.instr pc) code pc = Except.ok (Jvm.ClassFile.Instr.new v, pc + 3) := (rd_b _ _ code pc (u1_ok h)).trans (rd_b (Jvm.ClassFile.Reader.u2 : Jvm.ClassFile.Decoder Nat) (fun v => pure (Jvm.ClassFile.Instr.new v)) _ _ hv)
theorem oc_anewarray (h : xB code pc 189) {v : Nat} (hv : (Jvm.ClassFile.Reader.u2 : Jvm.ClassFile.Decoder Nat) code (pc + 1) = Except.ok (v, pc + 3)) : (Jvm.ClassFile.Decoder.instr pc) code pc = Except.ok (Jvm.ClassFile.Instr.anewarray v, pc + 3) := (rd_b _ _ code pc (u1_ok h)).trans (rd_b (Jvm.ClassFile.Reader.u2 : Jvm.ClassFile.Decoder Nat) (fun v => pure (Jvm.ClassFile.Instr.anewarray v)) _ _ hv)
theorem oc_sipush (h : xB code pc 17) {v : Int} (hv : (Jvm.ClassFile.Reader.s2 : Jvm.ClassFile.Decoder Int) code (pc + 1) = Except.ok (v, pc + 3)) : (Jvm.ClassFile.Decoder.instr pc) code pc = Except.ok (Jvm.ClassFile.Instr.sipush v, pc + 3) := (rd_b _ _ code pc (u1_ok h)).trans (rd_b (Jvm.ClassFile.Reader.s2 : Jvm.ClassFile.Decoder Int) (fun v => pure (Jvm.ClassFile.Instr.sipush v)) _ _ hv)
theorem oc_goto (h : xB code pc 167) {v : Int} (hv : (Jvm.ClassFile.Reader.s2 : Jvm.ClassFile.Decoder Int) code (pc + 1) = Except.ok (v, pc + 3)) : (Jvm.ClassFile.Decoder.instr pc) code pc = Except.ok (Jvm.ClassFile.Instr.goto v, pc + 3) := (rd_b _ _ code pc (u1_ok h)).trans (rd_b (Jvm.ClassFile.Reader.s2 : Jvm.ClassFile.Decoder Int) (fun v => pure (Jvm.ClassFile.Instr.goto v)) _ _ hv)
theorem oc_ifnull (h : xB code pc 198) {v : Int} (hv : (Jvm.ClassFile.Reader.s2 : Jvm.ClassFile.Decoder Int) code (pc + 1) = Except.ok (v, pc + 3)) : (Jvm.ClassFile.Decoder.instr pc) code pc = Except.ok (Jvm.ClassFile.Instr.ifnull v, pc + 3) := (rd_b _ _ code pc (u1_ok h)).trans (rd_b (Jvm.ClassFile.Reader.s2 : Jvm.ClassFile.Decoder Int) (fun v => pure (Jvm.ClassFile.Instr.ifnull v)) _ _ hv)
theorem oc_ifnonnull (h : xB code pc 199) {v : Int} (hv : (Jvm.ClassFile.Reader.s2 : Jvm.ClassFile.Decoder Int) code (pc + 1) = Except.ok (v, pc + 3)) : (Jvm.ClassFile.Decoder.instr pc) code pc = Except.ok (Jvm.ClassFile.Instr.ifnonnull v, pc + 3) := (rd_b _ _ code pc (u1_ok h)).trans (rd_b (Jvm.ClassFile.Reader.s2 : Jvm.ClassFile.Decoder Int) (fun v => pure (Jvm.ClassFile.Instr.ifnonnull v)) _ _ hv)
theorem oc_bipush (h : xB code pc 16) {v : Int} (hv : (Jvm.ClassFile.Reader.s1 : Jvm.ClassFile.Decoder Int) code (pc + 1) = Except.ok (v, pc + 2)) : (Jvm.ClassFile.Decoder.instr pc) code pc = Except.ok (Jvm.ClassFile.Instr.bipush v, pc + 2) := (rd_b _ _ code pc (u1_ok h)).trans (rd_b (Jvm.ClassFile.Reader.s1 : Jvm.ClassFile.Decoder Int) (fun v => pure (Jvm.ClassFile.Instr.bipush v)) _ _ hv)
theorem oc_ifCond_eq (h : xB code pc 153) {v : Int} (hv : (Jvm.ClassFile.Reader.s2 : Jvm.ClassFile.Decoder Int) code (pc + 1) = Except.ok (v, pc + 3)) : (Jvm.ClassFile.Decoder.instr pc) code pc = Except.ok (Jvm.ClassFile.Instr.ifCond .eq v, pc + 3) := (rd_b _ _ code pc (u1_ok h)).trans (rd_b (Jvm.ClassFile.Reader.s2 : Jvm.ClassFile.Decoder Int) (fun v => pure (Jvm.ClassFile.Instr.ifCond .eq v)) _ _ hv)
theorem oc_if_icmp_eq (h : xB code pc 159) {v : Int} (hv : (Jvm.ClassFile.Reader.s2 : Jvm.ClassFile.Decoder Int) code (pc + 1) = Except.ok (v, pc + 3)) : (Jvm.ClassFile.Decoder.instr pc) code pc = Except.ok (Jvm.ClassFile.Instr.if_icmp .eq v, pc + 3) := (rd_b _ _ code pc (u1_ok h)).trans (rd_b (Jvm.ClassFile.Reader.s2 : Jvm.ClassFile.Decoder Int) (fun v => pure (Jvm.ClassFile.Instr.if_icmp .eq v)) _ _ hv)
theorem oc_ifCond_ne (h : xB code pc 154) {v : Int} (hv : (Jvm.ClassFile.Reader.s2 : Jvm.ClassFile.Decoder Int) code (pc + 1) = Except.ok (v, pc + 3)) : (Jvm.ClassFile.Decoder.instr pc) code pc = Except.ok (Jvm.ClassFile.Instr.ifCond .ne v, pc + 3) := (rd_b _ _ code pc (u1_ok h)).trans (rd_b (Jvm.ClassFile.Reader.s2 : Jvm.ClassFile.Decoder Int) (fun v => pure (Jvm.ClassFile.Instr.ifCond .ne v)) _ _ hv)
theorem oc_if_icmp_ne (h : xB code pc 160) {v : Int} (hv : (Jvm.ClassFile.Reader.s2 : Jvm.ClassFile.Decoder Int) code (pc + 1) = Except.ok (v, pc + 3)) : (Jvm.ClassFile.Decoder.instr pc) code pc = Except.ok (Jvm.ClassFile.Instr.if_icmp .ne v, pc + 3) := (rd_b _ _ code pc (u1_ok h)).trans (rd_b (Jvm.ClassFile.Reader.s2 : Jvm.ClassFile.Decoder Int) (fun v => pure (Jvm.ClassFile.Instr.if_icmp .ne v)) _ _ hv)
theorem oc_ifCond_lt (h : xB code pc 155) {v : Int} (hv : (Jvm.ClassFile.Reader.s2 : Jvm.ClassFile.Decoder Int) code (pc + 1) = Except.ok (v, pc + 3)) : (Jvm.ClassFile.Decoder.instr pc) code pc = Except.ok (Jvm.ClassFile.Instr.ifCond .lt v, pc + 3) := (rd_b _ _ code pc (u1_ok h)).trans (rd_b (Jvm.ClassFile.Reader.s2 : Jvm.ClassFile.Decoder Int) (fun v => pure (Jvm.ClassFile.Instr.ifCond .lt v)) _ _ hv)
theorem oc_if_icmp_lt (h : xB code pc 161) {v : Int} (hv : (Jvm.ClassFile.Reader.s2 : Jvm.ClassFile.Decoder Int) code (pc + 1) = Except.ok (v, pc + 3)) : (Jvm.ClassFile.Decoder.instr pc) code pc = Except.ok (Jvm.ClassFile.Instr.if_icmp .lt v, pc + 3) := (rd_b _ _ code pc (u1_ok h)).trans (rd_b (Jvm.ClassFile.Reader.s2 : Jvm.ClassFile.Decoder Int) (fun v => pure (Jvm.ClassFile.Instr.if_icmp .lt v)) _ _ hv)
theorem oc_ifCond_ge (h : xB code pc 156) {v : Int} (hv : (Jvm.ClassFile.Reader.s2 : Jvm.ClassFile.Decoder Int) code (pc + 1) = Except.ok (v, pc + 3)) : (Jvm.ClassFile.Decoder.instr pc) code pc = Except.ok (Jvm.ClassFile.Instr.ifCond .ge v, pc + 3) := (rd_b _ _ code pc (u1_ok h)).trans (rd_b (Jvm.ClassFile.Reader.s2 : Jvm.ClassFile.Decoder Int) (fun v => pure (Jvm.ClassFile.Instr.ifCond .ge v)) _ _ hv)
theorem oc_if_icmp_ge (h : xB code pc 162) {v : Int} (hv : (Jvm.ClassFile.Reader.s2 : Jvm.ClassFile.Decoder Int) code (pc + 1) = Except.ok (v, pc + 3)) : (Jvm.ClassFile.Decoder.instr pc) code pc = Except.ok (Jvm.ClassFile.Instr.if_icmp .ge v, pc + 3) := (rd_b _ _ code pc (u1_ok h)).trans (rd_b (Jvm.ClassFile.Reader.s2 : Jvm.ClassFile.Decoder Int) (fun v => pure (Jvm.ClassFile.Instr.if_icmp .ge v)) _ _ hv)
theorem oc_ifCond_gt (h : xB code pc 157) {v : Int} (hv : (Jvm.ClassFile.Reader.s2 : Jvm.ClassFile.Decoder Int) code (pc + 1) = Except.ok (v, pc + 3)) : (Jvm.ClassFile.Decoder.instr pc) code pc = Except.ok (Jvm.ClassFile.Instr.ifCond .gt v, pc + 3) := (rd_b _ _ code pc (u1_ok h)).trans (rd_b (Jvm.ClassFile.Reader.s2 : Jvm.ClassFile.Decoder Int) (fun v => pure (Jvm.ClassFile.Instr.ifCond .gt v)) _ _ hv)
theorem oc_if_icmp_gt (h : xB code pc 163) {v : Int} (hv : (Jvm.ClassFile.Reader.s2 : Jvm.ClassFile.Decoder Int) code (pc + 1) = Except.ok (v, pc + 3)) : (Jvm.ClassFile.Decoder.instr pc) code pc = Except.ok (Jvm.ClassFile.Instr.if_icmp .gt v, pc + 3) := (rd_b _ _ code pc (u1_ok h)).trans (rd_b (Jvm.ClassFile.Reader.s2 : Jvm.ClassFile.Decoder Int) (fun v => pure (Jvm.ClassFile.Instr.if_icmp .gt v)) _ _ hv)
theorem oc_ifCond_le (h : xB code pc 158) {v : Int} (hv : (Jvm.ClassFile.Reader.s2 : Jvm.ClassFile.Decoder Int) code (pc + 1) = Except.ok (v, pc + 3)) : (Jvm.ClassFile.Decoder.instr pc) code pc = Except.ok (Jvm.ClassFile.Instr.ifCond .le v, pc + 3) := (rd_b _ _ code pc (u1_ok h)).trans (rd_b (Jvm.ClassFile.Reader.s2 : Jvm.ClassFile.Decoder Int) (fun v => pure (Jvm.ClassFile.Instr.ifCond .le v)) _ _ hv)
theorem oc_if_icmp_le (h : xB code pc 164) {v : Int} (hv : (Jvm.ClassFile.Reader.s2 : Jvm.ClassFile.Decoder Int) code (pc + 1) = Except.ok (v, pc + 3)) : (Jvm.ClassFile.Decoder.instr pc) code pc = Except.ok (Jvm.ClassFile.Instr.if_icmp .le v, pc + 3) := (rd_b _ _ code pc (u1_ok h)).trans (rd_b (Jvm.ClassFile.Reader.s2 : Jvm.ClassFile.Decoder Int) (fun v => pure (Jvm.ClassFile.Instr.if_icmp .le v)) _ _ hv)
end OPS
/-- the bytes that spell it -/
def xd_u (o : Int) (m : Nat) : Nat := (o % (m : Int)).toNat
def xd_e (I : Jvm.ClassFile.Instr) : Option (List Nat) := match I with
  | .aaload => some [50]
  | .aastore => some [83]
  | .aconst_null => some [1]
  | .areturn => some [176]
  | .arraylength => some [190]
  | .baload => some [51]
  | .bastore => some [84]
  | .dup => some [89]
  | .dup2 => some [92]
  | .i2b => some [145]
  | .i2c => some [146]
  | .i2l => some [133]
  | .iadd => some [96]
  | .iaload => some [46]
  | .iand => some [126]
  | .iastore => some [79]
  | .idiv => some [108]
  | .imul => some [104]
  | .ineg => some [116]
  | .ior => some [128]
  | .irem => some [112]
  | .ireturn => some [172]
  | .ishl => some [120]
  | .ishr => some [122]
  | .isub => some [100]
  | .iushr => some [124]
  | .ixor => some [130]
  | .l2i => some [136]
  | .ladd => some [97]
  | .laload => some [47]
  | .lastore => some [80]
  | .lcmp => some [148]
  | .ldiv => some [109]
  | .lmul => some [105]
  | .lneg => some [117]
  | .lrem => some [113]
  | .lreturn => some [173]
  | .lsub => some [101]
  | .pop => some [87]
  | .pop2 => some [88]
  | .return_ => some [177]
  | .iload_n k => some [26 + (k : Nat)]
  | .lload_n k => some [30 + (k : Nat)]
  | .aload_n k => some [42 + (k : Nat)]
  | .istore_n k => some [59 + (k : Nat)]
  | .lstore_n k => some [63 + (k : Nat)]
  | .astore_n k => some [75 + (k : Nat)]
  | .iconst c => if -1 ≤ c ∧ c ≤ 5 then some [(c + 3).toNat] else none
  | .lconst k => some [9 + (k : Nat)]
  | .ldc i => some [18, i]
  | .iload i => some [21, i]
  | .lload i => some [22, i]
  | .aload i => some [25, i]
  | .istore i => some [54, i]
  | .lstore i => some [55, i]
  | .astore i => some [58, i]
  | .ldc_w i => some [19, i / 256, i % 256]
  | .ldc2_w i => some [20, i / 256, i % 256]
  | .getfield i => some [180, i / 256, i % 256]
  | .putfield i => some [181, i / 256, i % 256]
  | .invokevirtual i => some [182, i / 256, i % 256]
  | .invokespecial i => some [183, i / 256, i % 256]
  | .invokestatic i => some [184, i / 256, i % 256]
  | .new i => some [187, i / 256, i % 256]
  | .anewarray i => some [189, i / 256, i % 256]
  | .bipush o => if -128 ≤ o ∧ o < 128 then some [16, xd_u o 256] else none
  | .sipush o => if -32768 ≤ o ∧ o < 32768 then some [17, xd_u o 65536 / 256, xd_u o 65536 % 256] else none
  | .goto o => if -32768 ≤ o ∧ o < 32768 then some [167, xd_u o 65536 / 256, xd_u o 65536 % 256] else none
  | .ifnull o => if -32768 ≤ o ∧ o < 32768 then some [198, xd_u o 65536 / 256, xd_u o 65536 % 256] else none
  | .ifnonnull o => if -32768 ≤ o ∧ o < 32768 then some [199, xd_u o 65536 / 256, xd_u o 65536 % 256] else none
  | .ifCond .eq o => if -32768 ≤ o ∧ o < 32768 then some [153, xd_u o 65536 / 256, xd_u o 65536 % 256] else none
  | .ifCond .ne o => if -32768 ≤ o ∧ o < 32768 then some [154, xd_u o 65536 / 256, xd_u o 65536 % 256] else none
  | .ifCond .lt o => if -32768 ≤ o ∧ o < 32768 then some [155, xd_u o 65536 / 256, xd_u o 65536 % 256] else none
  | .ifCond .ge o => if -32768 ≤ o ∧ o < 32768 then some [156, xd_u o 65536 / 256, xd_u o 65536 % 256] else none
  | .ifCond .gt o => if -32768 ≤ o ∧ o < 32768 then some [157, xd_u o 65536 / 256, xd_u o 65536 % 256] else none
  | .ifCond .le o => if -32768 ≤ o ∧ o < 32768 then some [158, xd_u o 65536 / 256, xd_u o 65536 % 256] else none
  | .if_icmp .eq o => if -32768 ≤ o ∧ o < 32768 then some [159, xd_u o 65536 / 256, xd_u o 65536 % 256] else none
  | .if_icmp .ne o => if -32768 ≤ o ∧ o < 32768 then some [160, xd_u o 65536 / 256, xd_u o 65536 % 256] else none
  | .if_icmp .lt o => if -32768 ≤ o ∧ o < 32768 then some [161, xd_u o 65536 / 256, xd_u o 65536 % 256] else none
  | .if_icmp .ge o => if -32768 ≤ o ∧ o < 32768 then some [162, xd_u o 65536 / 256, xd_u o 65536 % 256] else none
  | .if_icmp .gt o => if -32768 ≤ o ∧ o < 32768 then some [163, xd_u o 65536 / 256, xd_u o 65536 % 256] else none
  | .if_icmp .le o => if -32768 ≤ o ∧ o < 32768 then some [164, xd_u o 65536 / 256, xd_u o 65536 % 256] else none
  | _ => none
def xd_p : List UInt8 → List Nat → Bool
  | _, [] => true
  | a :: r, b :: l => Nat.beq a.toNat b && xd_p r l
  | [], _ :: _ => false
theorem xd_p_ok : ∀ {M : List UInt8} {l : List Nat}, xd_p M l = true → ∀ (j b : Nat), l[j]? = some b → ∃ a : UInt8, M[j]? = some a ∧ a.toNat = b
  | _, [], _, j, b, hb => by cases hb
  | a :: r, c :: l, h, j, b, hb => by
    unfold xd_p at h
    rw [Bool.and_eq_true] at h
    match j, hb with
    | 0, hb =>
      cases hb
      exact ⟨a, rfl, Nat.eq_of_beq_eq_true h.1⟩
    | j + 1, hb => exact xd_p_ok (M := r) (l := l) h.2 j b hb
  | [], _ :: _, h, _, _, _ => by cases h
def xd_by (code : ByteArray) (pc : Nat) (I : Jvm.ClassFile.Instr) (n : Nat) : Bool := match xd_e I with
  | some l => Nat.beq n l.length && xd_p (code.data.toList.drop pc) l
  | none => decide (decode code pc = .ok (I, n))
theorem xd_B {code : ByteArray} {pc : Nat} {l : List Nat} (h : xd_p (code.data.toList.drop pc) l = true) {j b : Nat} (hb : l[j]? = some b) : xB code (pc + j) b := by
  obtain ⟨a, h1, h2⟩ := xd_p_ok h j b hb
  rw [List.getElem?_drop] at h1
  exact ⟨a, h1, h2⟩
theorem sg_8 {o : Int} (h : -128 ≤ o ∧ o < 128) : Jvm.ClassFile.Reader.signed 8 (xd_u o 256) = o := by
  unfold Jvm.ClassFile.Reader.signed xd_u
  split <;> omega
theorem sg_16 {o : Int} (h : -32768 ≤ o ∧ o < 32768) : Jvm.ClassFile.Reader.signed 16 (xd_u o 65536 / 256 * 256 + xd_u o 65536 % 256) = o := by
  rw [show xd_u o 65536 / 256 * 256 + xd_u o 65536 % 256 = xd_u o 65536 by omega]
  unfold Jvm.ClassFile.Reader.signed xd_u
  split <;> omega
section DOK
variable {code : ByteArray} {pc : Nat} {l : List Nat}
theorem xd_s2 {o : Int} {b : Nat} {I : Jvm.ClassFile.Instr} (hI : ∀ {v : Int}, xB code pc b → (Jvm.ClassFile.Reader.s2 : Jvm.ClassFile.Decoder Int) code (pc + 1) = Except.ok (v, pc + 3) → v = o → (Jvm.ClassFile.Decoder.instr pc) code pc = Except.ok (I, pc + 3)) (h : (if -32768 ≤ o ∧ o < 32768 then some [b, xd_u o 65536 / 256, xd_u o 65536 % 256] else none) = some l) (hp : xd_p (code.data.toList.drop pc) l = true) : decode code pc = .ok (I, l.length) := by
  split at h
  · next ho =>
    cases h
    exact dc_of (hI (xd_B hp (j := 0) rfl) (s2_ok (xd_B hp (j := 1) rfl) (xd_B hp (j := 2) rfl)) (sg_16 ho))
  · cases h
end DOK
theorem xd_e_ok {code : ByteArray} {pc : Nat} {I : Jvm.ClassFile.Instr} {l : List Nat} (h : xd_e I = some l) (hp : xd_p (code.data.toList.drop pc) l = true) : decode code pc = .ok (I, l.length) := by
  unfold xd_e at h
  split at h
  · cases h
    exact dc_of (oc_aaload (xd_B hp (j := 0) rfl))
  · cases h
    exact dc_of (oc_aastore (xd_B hp (j := 0) rfl))
  · cases h
    exact dc_of (oc_aconst_null (xd_B hp (j := 0) rfl))
  · cases h
    exact dc_of (oc_areturn (xd_B hp (j := 0) rfl))
  · cases h
    exact dc_of (oc_arraylength (xd_B hp (j := 0) rfl))
  · cases h
    exact dc_of (oc_baload (xd_B hp (j := 0) rfl))
  · cases h
    exact dc_of (oc_bastore (xd_B hp (j := 0) rfl))
  · cases h
    exact dc_of (oc_dup (xd_B hp (j := 0) rfl))
  · cases h
    exact dc_of (oc_dup2 (xd_B hp (j := 0) rfl))
  · cases h
    exact dc_of (oc_i2b (xd_B hp (j := 0) rfl))
  · cases h
    exact dc_of (oc_i2c (xd_B hp (j := 0) rfl))
  · cases h
    exact dc_of (oc_i2l (xd_B hp (j := 0) rfl))
  · cases h
    exact dc_of (oc_iadd (xd_B hp (j := 0) rfl))
  · cases h
    exact dc_of (oc_iaload (xd_B hp (j := 0) rfl))
  · cases h
    exact dc_of (oc_iand (xd_B hp (j := 0) rfl))
  · cases h
    exact dc_of (oc_iastore (xd_B hp (j := 0) rfl))
  · cases h
    exact dc_of (oc_idiv (xd_B hp (j := 0) rfl))
  · cases h
    exact dc_of (oc_imul (xd_B hp (j := 0) rfl))
  · cases h
    exact dc_of (oc_ineg (xd_B hp (j := 0) rfl))
  · cases h
    exact dc_of (oc_ior (xd_B hp (j := 0) rfl))
  · cases h
    exact dc_of (oc_irem (xd_B hp (j := 0) rfl))
  · cases h
    exact dc_of (oc_ireturn (xd_B hp (j := 0) rfl))
  · cases h
    exact dc_of (oc_ishl (xd_B hp (j := 0) rfl))
  · cases h
    exact dc_of (oc_ishr (xd_B hp (j := 0) rfl))
  · cases h
    exact dc_of (oc_isub (xd_B hp (j := 0) rfl))
  · cases h
    exact dc_of (oc_iushr (xd_B hp (j := 0) rfl))
  · cases h
    exact dc_of (oc_ixor (xd_B hp (j := 0) rfl))
  · cases h
    exact dc_of (oc_l2i (xd_B hp (j := 0) rfl))
  · cases h
    exact dc_of (oc_ladd (xd_B hp (j := 0) rfl))
  · cases h
    exact dc_of (oc_laload (xd_B hp (j := 0) rfl))
  · cases h
    exact dc_of (oc_lastore (xd_B hp (j := 0) rfl))
  · cases h
    exact dc_of (oc_lcmp (xd_B hp (j := 0) rfl))
  · cases h
    exact dc_of (oc_ldiv (xd_B hp (j := 0) rfl))
  · cases h
    exact dc_of (oc_lmul (xd_B hp (j := 0) rfl))
  · cases h
    exact dc_of (oc_lneg (xd_B hp (j := 0) rfl))
  · cases h
    exact dc_of (oc_lrem (xd_B hp (j := 0) rfl))
  · cases h
    exact dc_of (oc_lreturn (xd_B hp (j := 0) rfl))
  · cases h
    exact dc_of (oc_lsub (xd_B hp (j := 0) rfl))
  · cases h
    exact dc_of (oc_pop (xd_B hp (j := 0) rfl))
  · cases h
    exact dc_of (oc_pop2 (xd_B hp (j := 0) rfl))
  · cases h
    exact dc_of (oc_return_ (xd_B hp (j := 0) rfl))
  · next k =>
    cases h
    match k, hp with
    | 0, hp => exact dc_of (oc_iload_n0 (xd_B hp (j := 0) rfl))
    | 1, hp => exact dc_of (oc_iload_n1 (xd_B hp (j := 0) rfl))
    | 2, hp => exact dc_of (oc_iload_n2 (xd_B hp (j := 0) rfl))
    | 3, hp => exact dc_of (oc_iload_n3 (xd_B hp (j := 0) rfl))
  · next k =>
    cases h
    match k, hp with
    | 0, hp => exact dc_of (oc_lload_n0 (xd_B hp (j := 0) rfl))
    | 1, hp => exact dc_of (oc_lload_n1 (xd_B hp (j := 0) rfl))
    | 2, hp => exact dc_of (oc_lload_n2 (xd_B hp (j := 0) rfl))
    | 3, hp => exact dc_of (oc_lload_n3 (xd_B hp (j := 0) rfl))
  · next k =>
    cases h
    match k, hp with
    | 0, hp => exact dc_of (oc_aload_n0 (xd_B hp (j := 0) rfl))
    | 1, hp => exact dc_of (oc_aload_n1 (xd_B hp (j := 0) rfl))
    | 2, hp => exact dc_of (oc_aload_n2 (xd_B hp (j := 0) rfl))
    | 3, hp => exact dc_of (oc_aload_n3 (xd_B hp (j := 0) rfl))
  · next k =>
    cases h
    match k, hp with
    | 0, hp => exact dc_of (oc_istore_n0 (xd_B hp (j := 0) rfl))
    | 1, hp => exact dc_of (oc_istore_n1 (xd_B hp (j := 0) rfl))
    | 2, hp => exact dc_of (oc_istore_n2 (xd_B hp (j := 0) rfl))
    | 3, hp => exact dc_of (oc_istore_n3 (xd_B hp (j := 0) rfl))
  · next k =>
    cases h
    match k, hp with
    | 0, hp => exact dc_of (oc_lstore_n0 (xd_B hp (j := 0) rfl))
    | 1, hp => exact dc_of (oc_lstore_n1 (xd_B hp (j := 0) rfl))
    | 2, hp => exact dc_of (oc_lstore_n2 (xd_B hp (j := 0) rfl))
    | 3, hp => exact dc_of (oc_lstore_n3 (xd_B hp (j := 0) rfl))
  · next k =>
    cases h
    match k, hp with
    | 0, hp => exact dc_of (oc_astore_n0 (xd_B hp (j := 0) rfl))
    | 1, hp => exact dc_of (oc_astore_n1 (xd_B hp (j := 0) rfl))
    | 2, hp => exact dc_of (oc_astore_n2 (xd_B hp (j := 0) rfl))
    | 3, hp => exact dc_of (oc_astore_n3 (xd_B hp (j := 0) rfl))
  · next c =>
    split at h
    · next hc =>
      cases h
      have hc2 : c = -1 ∨ c = 0 ∨ c = 1 ∨ c = 2 ∨ c = 3 ∨ c = 4 ∨ c = 5 := by omega
      rcases hc2 with rfl | rfl | rfl | rfl | rfl | rfl | rfl
      · exact dc_of (oc_iconst0 (xd_B hp (j := 0) rfl))
      · exact dc_of (oc_iconst1 (xd_B hp (j := 0) rfl))
      · exact dc_of (oc_iconst2 (xd_B hp (j := 0) rfl))
      · exact dc_of (oc_iconst3 (xd_B hp (j := 0) rfl))
      · exact dc_of (oc_iconst4 (xd_B hp (j := 0) rfl))
      · exact dc_of (oc_iconst5 (xd_B hp (j := 0) rfl))
      · exact dc_of (oc_iconst6 (xd_B hp (j := 0) rfl))
    · cases h
  · next k =>
    cases h
    match k, hp with
    | 0, hp => exact dc_of (oc_lconst0 (xd_B hp (j := 0) rfl))
    | 1, hp => exact dc_of (oc_lconst1 (xd_B hp (j := 0) rfl))
  · cases h
    exact dc_of (oc_ldc (xd_B hp (j := 0) rfl) (u1_ok (xd_B hp (j := 1) rfl)))
  · cases h
    exact dc_of (oc_iload (xd_B hp (j := 0) rfl) (u1_ok (xd_B hp (j := 1) rfl)))
  · cases h
    exact dc_of (oc_lload (xd_B hp (j := 0) rfl) (u1_ok (xd_B hp (j := 1) rfl)))
  · cases h
    exact dc_of (oc_aload (xd_B hp (j := 0) rfl) (u1_ok (xd_B hp (j := 1) rfl)))
  · cases h
    exact dc_of (oc_istore (xd_B hp (j := 0) rfl) (u1_ok (xd_B hp (j := 1) rfl)))
  · cases h
    exact dc_of (oc_lstore (xd_B hp (j := 0) rfl) (u1_ok (xd_B hp (j := 1) rfl)))
  · cases h
    exact dc_of (oc_astore (xd_B hp (j := 0) rfl) (u1_ok (xd_B hp (j := 1) rfl)))
  · next i =>
    cases h
    have h1 := oc_ldc_w (xd_B hp (j := 0) rfl) (u2_ok (xd_B hp (j := 1) rfl) (xd_B hp (j := 2) rfl))
    rw [show i / 256 * 256 + i % 256 = i by omega] at h1
    exact dc_of h1
  · next i =>
    cases h
    have h1 := oc_ldc2_w (xd_B hp (j := 0) rfl) (u2_ok (xd_B hp (j := 1) rfl) (xd_B hp (j := 2) rfl))
    rw [show i / 256 * 256 + i % 256 = i by omega] at h1
    exact dc_of h1
  · next i =>
    cases h
    have h1 := oc_getfield (xd_B hp (j := 0) rfl) (u2_ok (xd_B hp (j := 1) rfl) (xd_B hp (j := 2) rfl))
    rw [show i / 256 * 256 + i % 256 = i by omega] at h1
    exact dc_of h1
  · next i =>
    cases h
    have h1 := oc_putfield (xd_B hp (j := 0) rfl) (u2_ok (xd_B hp (j := 1) rfl) (xd_B hp (j := 2) rfl))
    rw [show i / 256 * 256 + i % 256 = i by omega] at h1
    exact dc_of h1
  · next i =>
    cases h
    have h1 := oc_invokevirtual (xd_B hp (j := 0) rfl) (u2_ok (xd_B hp (j := 1) rfl) (xd_B hp (j := 2) rfl))
    rw [show i / 256 * 256 + i % 256 = i by omega] at h1
    exact dc_of h1
  · next i =>
    cases h
    have h1 := oc_invokespecial (xd_B hp (j := 0) rfl) (u2_ok (xd_B hp (j := 1) rfl) (xd_B hp (j := 2) rfl))
    rw [show i / 256 * 256 + i % 256 = i by omega] at h1
    exact dc_of h1
  · next i =>
    cases h
    have h1 := oc_invokestatic (xd_B hp (j := 0) rfl) (u2_ok (xd_B hp (j := 1) rfl) (xd_B hp (j := 2) rfl))
    rw [show i / 256 * 256 + i % 256 = i by omega] at h1
    exact dc_of h1
  · next i =>
    cases h
    have h1 := oc_new (xd_B hp (j := 0) rfl) (u2_ok (xd_B hp (j := 1) rfl) (xd_B hp (j := 2) rfl))
    rw [show i / 256 * 256 + i % 256 = i by omega] at h1
    exact dc_of h1
  · next i =>
    cases h
    have h1 := oc_anewarray (xd_B hp (j := 0) rfl) (u2_ok (xd_B hp (j := 1) rfl) (xd_B hp (j := 2) rfl))
    rw [show i / 256 * 256 + i % 256 = i by omega] at h1
    exact dc_of h1
  · next o =>
    split at h
    · next ho =>
      cases h
      have h1 := oc_bipush (xd_B hp (j := 0) rfl) (s1_ok (xd_B hp (j := 1) rfl))
      rw [sg_8 ho] at h1
      exact dc_of h1
    · cases h
  · exact xd_s2 (fun h1 h2 e => by subst e; exact oc_sipush h1 h2) h hp
  · exact xd_s2 (fun h1 h2 e => by subst e; exact oc_goto h1 h2) h hp
  · exact xd_s2 (fun h1 h2 e => by subst e; exact oc_ifnull h1 h2) h hp
  · exact xd_s2 (fun h1 h2 e => by subst e; exact oc_ifnonnull h1 h2) h hp
  · exact xd_s2 (fun h1 h2 e => by subst e; exact oc_ifCond_eq h1 h2) h hp
  · exact xd_s2 (fun h1 h2 e => by subst e; exact oc_ifCond_ne h1 h2) h hp
  · exact xd_s2 (fun h1 h2 e => by subst e; exact oc_ifCond_lt h1 h2) h hp
  · exact xd_s2 (fun h1 h2 e => by subst e; exact oc_ifCond_ge h1 h2) h hp
  · exact xd_s2 (fun h1 h2 e => by subst e; exact oc_ifCond_gt h1 h2) h hp
  · exact xd_s2 (fun h1 h2 e => by subst e; exact oc_ifCond_le h1 h2) h hp
  · exact xd_s2 (fun h1 h2 e => by subst e; exact oc_if_icmp_eq h1 h2) h hp
  · exact xd_s2 (fun h1 h2 e => by subst e; exact oc_if_icmp_ne h1 h2) h hp
  · exact xd_s2 (fun h1 h2 e => by subst e; exact oc_if_icmp_lt h1 h2) h hp
  · exact xd_s2 (fun h1 h2 e => by subst e; exact oc_if_icmp_ge h1 h2) h hp
  · exact xd_s2 (fun h1 h2 e => by subst e; exact oc_if_icmp_gt h1 h2) h hp
  · exact xd_s2 (fun h1 h2 e => by subst e; exact oc_if_icmp_le h1 h2) h hp
  · cases h
theorem xd_ok {code : ByteArray} {pc n : Nat} {I : Jvm.ClassFile.Instr} (h : xd_by code pc I n = true) : decode code pc = .ok (I, n) := by
  unfold xd_by at h
  split at h
  · next l hl =>
    rw [Bool.and_eq_true] at h
    rw [Nat.eq_of_beq_eq_true h.1]
    exact xd_e_ok hl h.2
  · exact of_decide_eq_true h
