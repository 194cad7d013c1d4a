-- the instructions of a list are those that stand in the byte code: a walk over its bytes (made by wip/fast/mkfast.py)
set_option maxRecDepth 20000
theorem s_rd {cc : ByteArray} {p : Nat} {b : UInt8} {t : List UInt8} (h : cc.data.toList.drop p = b :: t) : (ClassFile.Reader.u1 : ClassFile.Decoder Nat) cc p = .ok (b.toNat, p + 1) := by
  obtain ⟨⟨l⟩⟩ := cc
  have h : l.drop p = b :: t := h
  have h0 : l[p]? = some b := by
    have h1 : (l.drop p)[0]? = some b := by rw [h]; rfl
    rw [List.getElem?_drop] at h1
    exact h1
  obtain ⟨hl, hb⟩ := List.getElem?_eq_some_iff.mp h0
  have hs : p < (ByteArray.mk ⟨l⟩).size := hl
  have e : (ClassFile.Reader.u1 : ClassFile.Decoder Nat) ⟨⟨l⟩⟩ p = (if h : p < (ByteArray.mk ⟨l⟩).size then (fun (_ : ByteArray) (_ : Nat) => (Except.ok ((ByteArray.mk ⟨l⟩)[p].toNat, p + 1) : Except ClassFile.DecodeError (Nat × Nat))) else (fun _ _ => .error (.truncated p))) ⟨⟨l⟩⟩ p := rfl
  rw [e, dif_pos hs]
  show Except.ok (l[p].toNat, p + 1) = _
  rw [hb]
theorem s_dn {cc : ByteArray} {p : Nat} {b : UInt8} {t : List UInt8} (h : cc.data.toList.drop p = b :: t) : cc.data.toList.drop (p + 1) = t := by
  rw [← List.drop_drop, h]
  rfl
theorem s_F_ex : ∃ F : Nat → Nat → ClassFile.Decoder Instr, (∀ pc, ClassFile.Decoder.instr pc = ClassFile.Reader.u1 >>= F pc) ∧
  (∀ pc, F pc 1 = (Pure.pure Instr.aconst_null : ClassFile.Decoder Instr)) ∧
  (∀ pc, F pc 2 = (Pure.pure (Instr.iconst (-1)) : ClassFile.Decoder Instr)) ∧
  (∀ pc, F pc 3 = (Pure.pure (Instr.iconst 0) : ClassFile.Decoder Instr)) ∧
  (∀ pc, F pc 4 = (Pure.pure (Instr.iconst 1) : ClassFile.Decoder Instr)) ∧
  (∀ pc, F pc 5 = (Pure.pure (Instr.iconst 2) : ClassFile.Decoder Instr)) ∧
  (∀ pc, F pc 6 = (Pure.pure (Instr.iconst 3) : ClassFile.Decoder Instr)) ∧
  (∀ pc, F pc 7 = (Pure.pure (Instr.iconst 4) : ClassFile.Decoder Instr)) ∧
  (∀ pc, F pc 8 = (Pure.pure (Instr.iconst 5) : ClassFile.Decoder Instr)) ∧
  (∀ pc, F pc 9 = (Pure.pure (Instr.lconst 0) : ClassFile.Decoder Instr)) ∧
  (∀ pc, F pc 10 = (Pure.pure (Instr.lconst 1) : ClassFile.Decoder Instr)) ∧
  (∀ pc, F pc 16 = (ClassFile.Reader.s1 >>= fun x => Pure.pure (Instr.bipush x))) ∧
  (∀ pc, F pc 17 = (ClassFile.Reader.s2 >>= fun x => Pure.pure (Instr.sipush x))) ∧
  (∀ pc, F pc 18 = (ClassFile.Reader.u1 >>= fun x => Pure.pure (Instr.ldc x))) ∧
  (∀ pc, F pc 19 = (ClassFile.Reader.u2 >>= fun x => Pure.pure (Instr.ldc_w x))) ∧
  (∀ pc, F pc 20 = (ClassFile.Reader.u2 >>= fun x => Pure.pure (Instr.ldc2_w x))) ∧
  (∀ pc, F pc 21 = (ClassFile.Reader.u1 >>= fun x => Pure.pure (Instr.iload x))) ∧
  (∀ pc, F pc 22 = (ClassFile.Reader.u1 >>= fun x => Pure.pure (Instr.lload x))) ∧
  (∀ pc, F pc 25 = (ClassFile.Reader.u1 >>= fun x => Pure.pure (Instr.aload x))) ∧
  (∀ pc, F pc 26 = (Pure.pure (Instr.iload_n 0) : ClassFile.Decoder Instr)) ∧
  (∀ pc, F pc 27 = (Pure.pure (Instr.iload_n 1) : ClassFile.Decoder Instr)) ∧
  (∀ pc, F pc 28 = (Pure.pure (Instr.iload_n 2) : ClassFile.Decoder Instr)) ∧
  (∀ pc, F pc 29 = (Pure.pure (Instr.iload_n 3) : ClassFile.Decoder Instr)) ∧
  (∀ pc, F pc 30 = (Pure.pure (Instr.lload_n 0) : ClassFile.Decoder Instr)) ∧
  (∀ pc, F pc 31 = (Pure.pure (Instr.lload_n 1) : ClassFile.Decoder Instr)) ∧
  (∀ pc, F pc 32 = (Pure.pure (Instr.lload_n 2) : ClassFile.Decoder Instr)) ∧
  (∀ pc, F pc 33 = (Pure.pure (Instr.lload_n 3) : ClassFile.Decoder Instr)) ∧
  (∀ pc, F pc 38 = (Pure.pure (Instr.dload_n 0) : ClassFile.Decoder Instr)) ∧
  (∀ pc, F pc 39 = (Pure.pure (Instr.dload_n 1) : ClassFile.Decoder Instr)) ∧
  (∀ pc, F pc 40 = (Pure.pure (Instr.dload_n 2) : ClassFile.Decoder Instr)) ∧
  (∀ pc, F pc 41 = (Pure.pure (Instr.dload_n 3) : ClassFile.Decoder Instr)) ∧
  (∀ pc, F pc 42 = (Pure.pure (Instr.aload_n 0) : ClassFile.Decoder Instr)) ∧
  (∀ pc, F pc 43 = (Pure.pure (Instr.aload_n 1) : ClassFile.Decoder Instr)) ∧
  (∀ pc, F pc 44 = (Pure.pure (Instr.aload_n 2) : ClassFile.Decoder Instr)) ∧
  (∀ pc, F pc 45 = (Pure.pure (Instr.aload_n 3) : ClassFile.Decoder Instr)) ∧
  (∀ pc, F pc 46 = (Pure.pure Instr.iaload : ClassFile.Decoder Instr)) ∧
  (∀ pc, F pc 47 = (Pure.pure Instr.laload : ClassFile.Decoder Instr)) ∧
  (∀ pc, F pc 50 = (Pure.pure Instr.aaload : ClassFile.Decoder Instr)) ∧
  (∀ pc, F pc 51 = (Pure.pure Instr.baload : ClassFile.Decoder Instr)) ∧
  (∀ pc, F pc 54 = (ClassFile.Reader.u1 >>= fun x => Pure.pure (Instr.istore x))) ∧
  (∀ pc, F pc 55 = (ClassFile.Reader.u1 >>= fun x => Pure.pure (Instr.lstore x))) ∧
  (∀ pc, F pc 58 = (ClassFile.Reader.u1 >>= fun x => Pure.pure (Instr.astore x))) ∧
  (∀ pc, F pc 59 = (Pure.pure (Instr.istore_n 0) : ClassFile.Decoder Instr)) ∧
  (∀ pc, F pc 60 = (Pure.pure (Instr.istore_n 1) : ClassFile.Decoder Instr)) ∧
  (∀ pc, F pc 61 = (Pure.pure (Instr.istore_n 2) : ClassFile.Decoder Instr)) ∧
  (∀ pc, F pc 62 = (Pure.pure (Instr.istore_n 3) : ClassFile.Decoder Instr)) ∧
  (∀ pc, F pc 63 = (Pure.pure (Instr.lstore_n 0) : ClassFile.Decoder Instr)) ∧
  (∀ pc, F pc 64 = (Pure.pure (Instr.lstore_n 1) : ClassFile.Decoder Instr)) ∧
  (∀ pc, F pc 65 = (Pure.pure (Instr.lstore_n 2) : ClassFile.Decoder Instr)) ∧
  (∀ pc, F pc 66 = (Pure.pure (Instr.lstore_n 3) : ClassFile.Decoder Instr)) ∧
  (∀ pc, F pc 71 = (Pure.pure (Instr.dstore_n 0) : ClassFile.Decoder Instr)) ∧
  (∀ pc, F pc 72 = (Pure.pure (Instr.dstore_n 1) : ClassFile.Decoder Instr)) ∧
  (∀ pc, F pc 73 = (Pure.pure (Instr.dstore_n 2) : ClassFile.Decoder Instr)) ∧
  (∀ pc, F pc 74 = (Pure.pure (Instr.dstore_n 3) : ClassFile.Decoder Instr)) ∧
  (∀ pc, F pc 75 = (Pure.pure (Instr.astore_n 0) : ClassFile.Decoder Instr)) ∧
  (∀ pc, F pc 76 = (Pure.pure (Instr.astore_n 1) : ClassFile.Decoder Instr)) ∧
  (∀ pc, F pc 77 = (Pure.pure (Instr.astore_n 2) : ClassFile.Decoder Instr)) ∧
  (∀ pc, F pc 78 = (Pure.pure (Instr.astore_n 3) : ClassFile.Decoder Instr)) ∧
  (∀ pc, F pc 79 = (Pure.pure Instr.iastore : ClassFile.Decoder Instr)) ∧
  (∀ pc, F pc 80 = (Pure.pure Instr.lastore : ClassFile.Decoder Instr)) ∧
  (∀ pc, F pc 83 = (Pure.pure Instr.aastore : ClassFile.Decoder Instr)) ∧
  (∀ pc, F pc 84 = (Pure.pure Instr.bastore : ClassFile.Decoder Instr)) ∧
  (∀ pc, F pc 87 = (Pure.pure Instr.pop : ClassFile.Decoder Instr)) ∧
  (∀ pc, F pc 89 = (Pure.pure Instr.dup : ClassFile.Decoder Instr)) ∧
  (∀ pc, F pc 90 = (Pure.pure Instr.dup_x1 : ClassFile.Decoder Instr)) ∧
  (∀ pc, F pc 92 = (Pure.pure Instr.dup2 : ClassFile.Decoder Instr)) ∧
  (∀ pc, F pc 96 = (Pure.pure Instr.iadd : ClassFile.Decoder Instr)) ∧
  (∀ pc, F pc 97 = (Pure.pure Instr.ladd : ClassFile.Decoder Instr)) ∧
  (∀ pc, F pc 100 = (Pure.pure Instr.isub : ClassFile.Decoder Instr)) ∧
  (∀ pc, F pc 101 = (Pure.pure Instr.lsub : ClassFile.Decoder Instr)) ∧
  (∀ pc, F pc 104 = (Pure.pure Instr.imul : ClassFile.Decoder Instr)) ∧
  (∀ pc, F pc 105 = (Pure.pure Instr.lmul : ClassFile.Decoder Instr)) ∧
  (∀ pc, F pc 107 = (Pure.pure Instr.dmul : ClassFile.Decoder Instr)) ∧
  (∀ pc, F pc 108 = (Pure.pure Instr.idiv : ClassFile.Decoder Instr)) ∧
  (∀ pc, F pc 109 = (Pure.pure Instr.ldiv : ClassFile.Decoder Instr)) ∧
  (∀ pc, F pc 111 = (Pure.pure Instr.ddiv : ClassFile.Decoder Instr)) ∧
  (∀ pc, F pc 112 = (Pure.pure Instr.irem : ClassFile.Decoder Instr)) ∧
  (∀ pc, F pc 113 = (Pure.pure Instr.lrem : ClassFile.Decoder Instr)) ∧
  (∀ pc, F pc 116 = (Pure.pure Instr.ineg : ClassFile.Decoder Instr)) ∧
  (∀ pc, F pc 117 = (Pure.pure Instr.lneg : ClassFile.Decoder Instr)) ∧
  (∀ pc, F pc 120 = (Pure.pure Instr.ishl : ClassFile.Decoder Instr)) ∧
  (∀ pc, F pc 122 = (Pure.pure Instr.ishr : ClassFile.Decoder Instr)) ∧
  (∀ pc, F pc 124 = (Pure.pure Instr.iushr : ClassFile.Decoder Instr)) ∧
  (∀ pc, F pc 126 = (Pure.pure Instr.iand : ClassFile.Decoder Instr)) ∧
  (∀ pc, F pc 128 = (Pure.pure Instr.ior : ClassFile.Decoder Instr)) ∧
  (∀ pc, F pc 130 = (Pure.pure Instr.ixor : ClassFile.Decoder Instr)) ∧
  (∀ pc, F pc 132 = (ClassFile.Reader.u1 >>= fun x => ClassFile.Reader.s1 >>= fun y => Pure.pure (Instr.iinc x y))) ∧
  (∀ pc, F pc 133 = (Pure.pure Instr.i2l : ClassFile.Decoder Instr)) ∧
  (∀ pc, F pc 135 = (Pure.pure Instr.i2d : ClassFile.Decoder Instr)) ∧
  (∀ pc, F pc 136 = (Pure.pure Instr.l2i : ClassFile.Decoder Instr)) ∧
  (∀ pc, F pc 145 = (Pure.pure Instr.i2b : ClassFile.Decoder Instr)) ∧
  (∀ pc, F pc 147 = (Pure.pure Instr.i2s : ClassFile.Decoder Instr)) ∧
  (∀ pc, F pc 148 = (Pure.pure Instr.lcmp : ClassFile.Decoder Instr)) ∧
  (∀ pc, F pc 153 = (ClassFile.Reader.s2 >>= fun x => Pure.pure (Instr.ifCond .eq x))) ∧
  (∀ pc, F pc 154 = (ClassFile.Reader.s2 >>= fun x => Pure.pure (Instr.ifCond .ne x))) ∧
  (∀ pc, F pc 155 = (ClassFile.Reader.s2 >>= fun x => Pure.pure (Instr.ifCond .lt x))) ∧
  (∀ pc, F pc 156 = (ClassFile.Reader.s2 >>= fun x => Pure.pure (Instr.ifCond .ge x))) ∧
  (∀ pc, F pc 157 = (ClassFile.Reader.s2 >>= fun x => Pure.pure (Instr.ifCond .gt x))) ∧
  (∀ pc, F pc 158 = (ClassFile.Reader.s2 >>= fun x => Pure.pure (Instr.ifCond .le x))) ∧
  (∀ pc, F pc 159 = (ClassFile.Reader.s2 >>= fun x => Pure.pure (Instr.if_icmp .eq x))) ∧
  (∀ pc, F pc 160 = (ClassFile.Reader.s2 >>= fun x => Pure.pure (Instr.if_icmp .ne x))) ∧
  (∀ pc, F pc 161 = (ClassFile.Reader.s2 >>= fun x => Pure.pure (Instr.if_icmp .lt x))) ∧
  (∀ pc, F pc 162 = (ClassFile.Reader.s2 >>= fun x => Pure.pure (Instr.if_icmp .ge x))) ∧
  (∀ pc, F pc 163 = (ClassFile.Reader.s2 >>= fun x => Pure.pure (Instr.if_icmp .gt x))) ∧
  (∀ pc, F pc 164 = (ClassFile.Reader.s2 >>= fun x => Pure.pure (Instr.if_icmp .le x))) ∧
  (∀ pc, F pc 167 = (ClassFile.Reader.s2 >>= fun x => Pure.pure (Instr.goto x))) ∧
  (∀ pc, F pc 172 = (Pure.pure Instr.ireturn : ClassFile.Decoder Instr)) ∧
  (∀ pc, F pc 173 = (Pure.pure Instr.lreturn : ClassFile.Decoder Instr)) ∧
  (∀ pc, F pc 176 = (Pure.pure Instr.areturn : ClassFile.Decoder Instr)) ∧
  (∀ pc, F pc 177 = (Pure.pure Instr.return_ : ClassFile.Decoder Instr)) ∧
  (∀ pc, F pc 180 = (ClassFile.Reader.u2 >>= fun x => Pure.pure (Instr.getfield x))) ∧
  (∀ pc, F pc 181 = (ClassFile.Reader.u2 >>= fun x => Pure.pure (Instr.putfield x))) ∧
  (∀ pc, F pc 182 = (ClassFile.Reader.u2 >>= fun x => Pure.pure (Instr.invokevirtual x))) ∧
  (∀ pc, F pc 183 = (ClassFile.Reader.u2 >>= fun x => Pure.pure (Instr.invokespecial x))) ∧
  (∀ pc, F pc 184 = (ClassFile.Reader.u2 >>= fun x => Pure.pure (Instr.invokestatic x))) ∧
  (∀ pc, F pc 187 = (ClassFile.Reader.u2 >>= fun x => Pure.pure (Instr.new x))) ∧
  (∀ pc, F pc 189 = (ClassFile.Reader.u2 >>= fun x => Pure.pure (Instr.anewarray x))) ∧
  (∀ pc, F pc 190 = (Pure.pure Instr.arraylength : ClassFile.Decoder Instr)) ∧
  (∀ pc, F pc 191 = (Pure.pure Instr.athrow : ClassFile.Decoder Instr)) ∧
  (∀ pc, F pc 198 = (ClassFile.Reader.s2 >>= fun x => Pure.pure (Instr.ifnull x))) ∧
  (∀ pc, F pc 199 = (ClassFile.Reader.s2 >>= fun x => Pure.pure (Instr.ifnonnull x))) := by
  refine ⟨_, fun _ => rfl, fun _ => rfl, fun _ => rfl, fun _ => rfl, fun _ => rfl, fun _ => rfl, fun _ => rfl, fun _ => rfl, fun _ => rfl, fun _ => rfl, fun _ => rfl, fun _ => rfl, fun _ => rfl, fun _ => rfl, fun _ => rfl, fun _ => rfl, fun _ => rfl, fun _ => rfl, fun _ => rfl, fun _ => rfl, fun _ => rfl, fun _ => rfl, fun _ => rfl, fun _ => rfl, fun _ => rfl, fun _ => rfl, fun _ => rfl, fun _ => rfl, fun _ => rfl, fun _ => rfl, fun _ => rfl, fun _ => rfl, fun _ => rfl, fun _ => rfl, fun _ => rfl, fun _ => rfl, fun _ => rfl, fun _ => rfl, fun _ => rfl, fun _ => rfl, fun _ => rfl, fun _ => rfl, fun _ => rfl, fun _ => rfl, fun _ => rfl, fun _ => rfl, fun _ => rfl, fun _ => rfl, fun _ => rfl, fun _ => rfl, fun _ => rfl, fun _ => rfl, fun _ => rfl, fun _ => rfl, fun _ => rfl, fun _ => rfl, fun _ => rfl, fun _ => rfl, fun _ => rfl, fun _ => rfl, fun _ => rfl, fun _ => rfl, fun _ => rfl, fun _ => rfl, fun _ => rfl, fun _ => rfl, fun _ => rfl, fun _ => rfl, fun _ => rfl, fun _ => rfl, fun _ => rfl, fun _ => rfl, fun _ => rfl, fun _ => rfl, fun _ => rfl, fun _ => rfl, fun _ => rfl, fun _ => rfl, fun _ => rfl, fun _ => rfl, fun _ => rfl, fun _ => rfl, fun _ => rfl, fun _ => rfl, fun _ => rfl, fun _ => rfl, fun _ => rfl, fun _ => rfl, fun _ => rfl, fun _ => rfl, fun _ => rfl, fun _ => rfl, fun _ => rfl, fun _ => rfl, fun _ => rfl, fun _ => rfl, fun _ => rfl, fun _ => rfl, fun _ => rfl, fun _ => rfl, fun _ => rfl, fun _ => rfl, fun _ => rfl, fun _ => rfl, fun _ => rfl, fun _ => rfl, fun _ => rfl, fun _ => rfl, fun _ => rfl, fun _ => rfl, fun _ => rfl, fun _ => rfl, fun _ => rfl, fun _ => rfl, fun _ => rfl, fun _ => rfl, fun _ => rfl, fun _ => rfl, fun _ => rfl, fun _ => rfl, fun _ => rfl⟩
noncomputable def s_F : Nat → Nat → ClassFile.Decoder Instr := Classical.choose s_F_ex
theorem s_F_in (pc : Nat) : ClassFile.Decoder.instr pc = ClassFile.Reader.u1 >>= s_F pc := (Classical.choose_spec s_F_ex).1 pc
theorem s_F_1 (pc : Nat) : s_F pc 1 = (Pure.pure Instr.aconst_null : ClassFile.Decoder Instr) := (Classical.choose_spec s_F_ex).2.1 pc
theorem s_F_2 (pc : Nat) : s_F pc 2 = (Pure.pure (Instr.iconst (-1)) : ClassFile.Decoder Instr) := (Classical.choose_spec s_F_ex).2.2.1 pc
theorem s_F_3 (pc : Nat) : s_F pc 3 = (Pure.pure (Instr.iconst 0) : ClassFile.Decoder Instr) := (Classical.choose_spec s_F_ex).2.2.2.1 pc
theorem s_F_4 (pc : Nat) : s_F pc 4 = (Pure.pure (Instr.iconst 1) : ClassFile.Decoder Instr) := (Classical.choose_spec s_F_ex).2.2.2.2.1 pc
theorem s_F_5 (pc : Nat) : s_F pc 5 = (Pure.pure (Instr.iconst 2) : ClassFile.Decoder Instr) := (Classical.choose_spec s_F_ex).2.2.2.2.2.1 pc
theorem s_F_6 (pc : Nat) : s_F pc 6 = (Pure.pure (Instr.iconst 3) : ClassFile.Decoder Instr) := (Classical.choose_spec s_F_ex).2.2.2.2.2.2.1 pc
theorem s_F_7 (pc : Nat) : s_F pc 7 = (Pure.pure (Instr.iconst 4) : ClassFile.Decoder Instr) := (Classical.choose_spec s_F_ex).2.2.2.2.2.2.2.1 pc
theorem s_F_8 (pc : Nat) : s_F pc 8 = (Pure.pure (Instr.iconst 5) : ClassFile.Decoder Instr) := (Classical.choose_spec s_F_ex).2.2.2.2.2.2.2.2.1 pc
theorem s_F_9 (pc : Nat) : s_F pc 9 = (Pure.pure (Instr.lconst 0) : ClassFile.Decoder Instr) := (Classical.choose_spec s_F_ex).2.2.2.2.2.2.2.2.2.1 pc
theorem s_F_10 (pc : Nat) : s_F pc 10 = (Pure.pure (Instr.lconst 1) : ClassFile.Decoder Instr) := (Classical.choose_spec s_F_ex).2.2.2.2.2.2.2.2.2.2.1 pc
theorem s_F_16 (pc : Nat) : s_F pc 16 = (ClassFile.Reader.s1 >>= fun x => Pure.pure (Instr.bipush x)) := (Classical.choose_spec s_F_ex).2.2.2.2.2.2.2.2.2.2.2.1 pc
theorem s_F_17 (pc : Nat) : s_F pc 17 = (ClassFile.Reader.s2 >>= fun x => Pure.pure (Instr.sipush x)) := (Classical.choose_spec s_F_ex).2.2.2.2.2.2.2.2.2.2.2.2.1 pc
theorem s_F_18 (pc : Nat) : s_F pc 18 = (ClassFile.Reader.u1 >>= fun x => Pure.pure (Instr.ldc x)) := (Classical.choose_spec s_F_ex).2.2.2.2.2.2.2.2.2.2.2.2.2.1 pc
theorem s_F_19 (pc : Nat) : s_F pc 19 = (ClassFile.Reader.u2 >>= fun x => Pure.pure (Instr.ldc_w x)) := (Classical.choose_spec s_F_ex).2.2.2.2.2.2.2.2.2.2.2.2.2.2.1 pc
theorem s_F_20 (pc : Nat) : s_F pc 20 = (ClassFile.Reader.u2 >>= fun x => Pure.pure (Instr.ldc2_w x)) := (Classical.choose_spec s_F_ex).2.2.2.2.2.2.2.2.2.2.2.2.2.2.2.1 pc
theorem s_F_21 (pc : Nat) : s_F pc 21 = (ClassFile.Reader.u1 >>= fun x => Pure.pure (Instr.iload x)) := (Classical.choose_spec s_F_ex).2.2.2.2.2.2.2.2.2.2.2.2.2.2.2.2.1 pc
theorem s_F_22 (pc : Nat) : s_F pc 22 = (ClassFile.Reader.u1 >>= fun x => Pure.pure (Instr.lload x)) := (Classical.choose_spec s_F_ex).2.2.2.2.2.2.2.2.2.2.2.2.2.2.2.2.2.1 pc
theorem s_F_25 (pc : Nat) : s_F pc 25 = (ClassFile.Reader.u1 >>= fun x => Pure.pure (Instr.aload x)) := (Classical.choose_spec s_F_ex).2.2.2.2.2.2.2.2.2.2.2.2.2.2.2.2.2.2.1 pc
theorem s_F_26 (pc : Nat) : s_F pc 26 = (Pure.pure (Instr.iload_n 0) : ClassFile.Decoder Instr) := (Classical.choose_spec s_F_ex).2.2.2.2.2.2.2.2.2.2.2.2.2.2.2.2.2.2.2.1 pc
theorem s_F_27 (pc : Nat) : s_F pc 27 = (Pure.pure (Instr.iload_n 1) : ClassFile.Decoder Instr) := (Classical.choose_spec s_F_ex).2.2.2.2.2.2.2.2.2.2.2.2.2.2.2.2.2.2.2.2.1 pc
theorem s_F_28 (pc : Nat) : s_F pc 28 = (Pure.pure (Instr.iload_n 2) : ClassFile.Decoder Instr) := (Classical.choose_spec s_F_ex).2.2.2.2.2.2.2.2.2.2.2.2.2.2.2.2.2.2.2.2.2.1 pc
theorem s_F_29 (pc : Nat) : s_F pc 29 = (Pure.pure (Instr.iload_n 3) : ClassFile.Decoder Instr) := (Classical.choose_spec s_F_ex).2.2.2.2.2.2.2.2.2.2.2.2.2.2.2.2.2.2.2.2.2.2.1 pc
theorem s_F_30 (pc : Nat) : s_F pc 30 = (Pure.pure (Instr.lload_n 0) : ClassFile.Decoder Instr) := (Classical.choose_spec s_F_ex).2.2.2.2.2.2.2.2.2.2.2.2.2.2.2.2.2.2.2.2.2.2.2.1 pc
theorem s_F_31 (pc : Nat) : s_F pc 31 = (Pure.pure (Instr.lload_n 1) : ClassFile.Decoder Instr) := (Classical.choose_spec s_F_ex).2.2.2.2.2.2.2.2.2.2.2.2.2.2.2.2.2.2.2.2.2.2.2.2.1 pc
theorem s_F_32 (pc : Nat) : s_F pc 32 = (Pure.pure (Instr.lload_n 2) : ClassFile.Decoder Instr) := (Classical.choose_spec s_F_ex).2.2.2.2.2.2.2.2.2.2.2.2.2.2.2.2.2.2.2.2.2.2.2.2.2.1 pc
theorem s_F_33 (pc : Nat) : s_F pc 33 = (Pure.pure (Instr.lload_n 3) : ClassFile.Decoder Instr) := (Classical.choose_spec s_F_ex).2.2.2.2.2.2.2.2.2.2.2.2.2.2.2.2.2.2.2.2.2.2.2.2.2.2.1 pc
theorem s_F_38 (pc : Nat) : s_F pc 38 = (Pure.pure (Instr.dload_n 0) : ClassFile.Decoder Instr) := (Classical.choose_spec s_F_ex).2.2.2.2.2.2.2.2.2.2.2.2.2.2.2.2.2.2.2.2.2.2.2.2.2.2.2.1 pc
theorem s_F_39 (pc : Nat) : s_F pc 39 = (Pure.pure (Instr.dload_n 1) : ClassFile.Decoder Instr) := (Classical.choose_spec s_F_ex).2.2.2.2.2.2.2.2.2.2.2.2.2.2.2.2.2.2.2.2.2.2.2.2.2.2.2.2.1 pc
theorem s_F_40 (pc : Nat) : s_F pc 40 = (Pure.pure (Instr.dload_n 2) : ClassFile.Decoder Instr) := (Classical.choose_spec s_F_ex).2.2.2.2.2.2.2.2.2.2.2.2.2.2.2.2.2.2.2.2.2.2.2.2.2.2.2.2.2.1 pc
theorem s_F_41 (pc : Nat) : s_F pc 41 = (Pure.pure (Instr.dload_n 3) : ClassFile.Decoder Instr) := (Classical.choose_spec s_F_ex).2.2.2.2.2.2.2.2.2.2.2.2.2.2.2.2.2.2.2.2.2.2.2.2.2.2.2.2.2.2.1 pc
theorem s_F_42 (pc : Nat) : s_F pc 42 = (Pure.pure (Instr.aload_n 0) : ClassFile.Decoder Instr) := (Classical.choose_spec s_F_ex).2.2.2.2.2.2.2.2.2.2.2.2.2.2.2.2.2.2.2.2.2.2.2.2.2.2.2.2.2.2.2.1 pc
theorem s_F_43 (pc : Nat) : s_F pc 43 = (Pure.pure (Instr.aload_n 1) : ClassFile.Decoder Instr) := (Classical.choose_spec s_F_ex).2.2.2.2.2.2.2.2.2.2.2.2.2.2.2.2.2.2.2.2.2.2.2.2.2.2.2.2.2.2.2.2.1 pc
theorem s_F_44 (pc : Nat) : s_F pc 44 = (Pure.pure (Instr.aload_n 2) : ClassFile.Decoder Instr) := (Classical.choose_spec s_F_ex).2.2.2.2.2.2.2.2.2.2.2.2.2.2.2.2.2.2.2.2.2.2.2.2.2.2.2.2.2.2.2.2.2.1 pc
theorem s_F_45 (pc : Nat) : s_F pc 45 = (Pure.pure (Instr.aload_n 3) : ClassFile.Decoder Instr) := (Classical.choose_spec s_F_ex).2.2.2.2.2.2.2.2.2.2.2.2.2.2.2.2.2.2.2.2.2.2.2.2.2.2.2.2.2.2.2.2.2.2.1 pc
theorem s_F_46 (pc : Nat) : s_F pc 46 = (Pure.pure Instr.iaload : ClassFile.Decoder Instr) := (Classical.choose_spec s_F_ex).2.2.2.2.2.2.2.2.2.2.2.2.2.2.2.2.2.2.2.2.2.2.2.2.2.2.2.2.2.2.2.2.2.2.2.1 pc
theorem s_F_47 (pc : Nat) : s_F pc 47 = (Pure.pure Instr.laload : ClassFile.Decoder Instr) := (Classical.choose_spec s_F_ex).2.2.2.2.2.2.2.2.2.2.2.2.2.2.2.2.2.2.2.2.2.2.2.2.2.2.2.2.2.2.2.2.2.2.2.2.1 pc
theorem s_F_50 (pc : Nat) : s_F pc 50 = (Pure.pure Instr.aaload : ClassFile.Decoder Instr) := (Classical.choose_spec s_F_ex).2.2.2.2.2.2.2.2.2.2.2.2.2.2.2.2.2.2.2.2.2.2.2.2.2.2.2.2.2.2.2.2.2.2.2.2.2.1 pc
theorem s_F_51 (pc : Nat) : s_F pc 51 = (Pure.pure Instr.baload : ClassFile.Decoder Instr) := (Classical.choose_spec s_F_ex).2.2.2.2.2.2.2.2.2.2.2.2.2.2.2.2.2.2.2.2.2.2.2.2.2.2.2.2.2.2.2.2.2.2.2.2.2.2.1 pc
theorem s_F_54 (pc : Nat) : s_F pc 54 = (ClassFile.Reader.u1 >>= fun x => Pure.pure (Instr.istore x)) := (Classical.choose_spec s_F_ex).2.2.2.2.2.2.2.2.2.2.2.2.2.2.2.2.2.2.2.2.2.2.2.2.2.2.2.2.2.2.2.2.2.2.2.2.2.2.2.1 pc
theorem s_F_55 (pc : Nat) : s_F pc 55 = (ClassFile.Reader.u1 >>= fun x => Pure.pure (Instr.lstore x)) := (Classical.choose_spec s_F_ex).2.2.2.2.2.2.2.2.2.2.2.2.2.2.2.2.2.2.2.2.2.2.2.2.2.2.2.2.2.2.2.2.2.2.2.2.2.2.2.2.1 pc
theorem s_F_58 (pc : Nat) : s_F pc 58 = (ClassFile.Reader.u1 >>= fun x => Pure.pure (Instr.astore x)) := (Classical.choose_spec s_F_ex).2.2.2.2.2.2.2.2.2.2.2.2.2.2.2.2.2.2.2.2.2.2.2.2.2.2.2.2.2.2.2.2.2.2.2.2.2.2.2.2.2.1 pc
theorem s_F_59 (pc : Nat) : s_F pc 59 = (Pure.pure (Instr.istore_n 0) : ClassFile.Decoder Instr) := (Classical.choose_spec s_F_ex).2.2.2.2.2.2.2.2.2.2.2.2.2.2.2.2.2.2.2.2.2.2.2.2.2.2.2.2.2.2.2.2.2.2.2.2.2.2.2.2.2.2.1 pc
theorem s_F_60 (pc : Nat) : s_F pc 60 = (Pure.pure (Instr.istore_n 1) : ClassFile.Decoder Instr) := (Classical.choose_spec s_F_ex).2.2.2.2.2.2.2.2.2.2.2.2.2.2.2.2.2.2.2.2.2.2.2.2.2.2.2.2.2.2.2.2.2.2.2.2.2.2.2.2.2.2.2.1 pc
theorem s_F_61 (pc : Nat) : s_F pc 61 = (Pure.pure (Instr.istore_n 2) : ClassFile.Decoder Instr) := (Classical.choose_spec s_F_ex).2.2.2.2.2.2.2.2.2.2.2.2.2.2.2.2.2.2.2.2.2.2.2.2.2.2.2.2.2.2.2.2.2.2.2.2.2.2.2.2.2.2.2.2.1 pc
theorem s_F_62 (pc : Nat) : s_F pc 62 = (Pure.pure (Instr.istore_n 3) : ClassFile.Decoder Instr) := (Classical.choose_spec s_F_ex).2.2.2.2.2.2.2.2.2.2.2.2.2.2.2.2.2.2.2.2.2.2.2.2.2.2.2.2.2.2.2.2.2.2.2.2.2.2.2.2.2.2.2.2.2.1 pc
theorem s_F_63 (pc : Nat) : s_F pc 63 = (Pure.pure (Instr.lstore_n 0) : ClassFile.Decoder Instr) := (Classical.choose_spec s_F_ex).2.2.2.2.2.2.2.2.2.2.2.2.2.2.2.2.2.2.2.2.2.2.2.2.2.2.2.2.2.2.2.2.2.2.2.2.2.2.2.2.2.2.2.2.2.2.1 pc
theorem s_F_64 (pc : Nat) : s_F pc 64 = (Pure.pure (Instr.lstore_n 1) : ClassFile.Decoder Instr) := (Classical.choose_spec s_F_ex).2.2.2.2.2.2.2.2.2.2.2.2.2.2.2.2.2.2.2.2.2.2.2.2.2.2.2.2.2.2.2.2.2.2.2.2.2.2.2.2.2.2.2.2.2.2.2.1 pc
theorem s_F_65 (pc : Nat) : s_F pc 65 = (Pure.pure (Instr.lstore_n 2) : ClassFile.Decoder Instr) := (Classical.choose_spec s_F_ex).2.2.2.2.2.2.2.2.2.2.2.2.2.2.2.2.2.2.2.2.2.2.2.2.2.2.2.2.2.2.2.2.2.2.2.2.2.2.2.2.2.2.2.2.2.2.2.2.1 pc
theorem s_F_66 (pc : Nat) : s_F pc 66 = (Pure.pure (Instr.lstore_n 3) : ClassFile.Decoder Instr) := (Classical.choose_spec s_F_ex).2.2.2.2.2.2.2.2.2.2.2.2.2.2.2.2.2.2.2.2.2.2.2.2.2.2.2.2.2.2.2.2.2.2.2.2.2.2.2.2.2.2.2.2.2.2.2.2.2.1 pc
theorem s_F_71 (pc : Nat) : s_F pc 71 = (Pure.pure (Instr.dstore_n 0) : ClassFile.Decoder Instr) := (Classical.choose_spec s_F_ex).2.2.2.2.2.2.2.2.2.2.2.2.2.2.2.2.2.2.2.2.2.2.2.2.2.2.2.2.2.2.2.2.2.2.2.2.2.2.2.2.2.2.2.2.2.2.2.2.2.2.1 pc
theorem s_F_72 (pc : Nat) : s_F pc 72 = (Pure.pure (Instr.dstore_n 1) : ClassFile.Decoder Instr) := (Classical.choose_spec s_F_ex).2.2.2.2.2.2.2.2.2.2.2.2.2.2.2.2.2.2.2.2.2.2.2.2.2.2.2.2.2.2.2.2.2.2.2.2.2.2.2.2.2.2.2.2.2.2.2.2.2.2.2.1 pc
theorem s_F_73 (pc : Nat) : s_F pc 73 = (Pure.pure (Instr.dstore_n 2) : ClassFile.Decoder Instr) := (Classical.choose_spec s_F_ex).2.2.2.2.2.2.2.2.2.2.2.2.2.2.2.2.2.2.2.2.2.2.2.2.2.2.2.2.2.2.2.2.2.2.2.2.2.2.2.2.2.2.2.2.2.2.2.2.2.2.2.2.1 pc
theorem s_F_74 (pc : Nat) : s_F pc 74 = (Pure.pure (Instr.dstore_n 3) : ClassFile.Decoder Instr) := (Classical.choose_spec s_F_ex).2.2.2.2.2.2.2.2.2.2.2.2.2.2.2.2.2.2.2.2.2.2.2.2.2.2.2.2.2.2.2.2.2.2.2.2.2.2.2.2.2.2.2.2.2.2.2.2.2.2.2.2.2.1 pc
theorem s_F_75 (pc : Nat) : s_F pc 75 = (Pure.pure (Instr.astore_n 0) : ClassFile.Decoder Instr) := (Classical.choose_spec s_F_ex).2.2.2.2.2.2.2.2.2.2.2.2.2.2.2.2.2.2.2.2.2.2.2.2.2.2.2.2.2.2.2.2.2.2.2.2.2.2.2.2.2.2.2.2.2.2.2.2.2.2.2.2.2.2.1 pc
theorem s_F_76 (pc : Nat) : s_F pc 76 = (Pure.pure (Instr.astore_n 1) : ClassFile.Decoder Instr) := (Classical.choose_spec s_F_ex).2.2.2.2.2.2.2.2.2.2.2.2.2.2.2.2.2.2.2.2.2.2.2.2.2.2.2.2.2.2.2.2.2.2.2.2.2.2.2.2.2.2.2.2.2.2.2.2.2.2.2.2.2.2.2.1 pc
theorem s_F_77 (pc : Nat) : s_F pc 77 = (Pure.pure (Instr.astore_n 2) : ClassFile.Decoder Instr) := (Classical.choose_spec s_F_ex).2.2.2.2.2.2.2.2.2.2.2.2.2.2.2.2.2.2.2.2.2.2.2.2.2.2.2.2.2.2.2.2.2.2.2.2.2.2.2.2.2.2.2.2.2.2.2.2.2.2.2.2.2.2.2.2.1 pc
theorem s_F_78 (pc : Nat) : s_F pc 78 = (Pure.pure (Instr.astore_n 3) : ClassFile.Decoder Instr) := (Classical.choose_spec s_F_ex).2.2.2.2.2.2.2.2.2.2.2.2.2.2.2.2.2.2.2.2.2.2.2.2.2.2.2.2.2.2.2.2.2.2.2.2.2.2.2.2.2.2.2.2.2.2.2.2.2.2.2.2.2.2.2.2.2.1 pc
theorem s_F_79 (pc : Nat) : s_F pc 79 = (Pure.pure Instr.iastore : ClassFile.Decoder Instr) := (Classical.choose_spec s_F_ex).2.2.2.2.2.2.2.2.2.2.2.2.2.2.2.2.2.2.2.2.2.2.2.2.2.2.2.2.2.2.2.2.2.2.2.2.2.2.2.2.2.2.2.2.2.2.2.2.2.2.2.2.2.2.2.2.2.2.1 pc
theorem s_F_80 (pc : Nat) : s_F pc 80 = (Pure.pure Instr.lastore : ClassFile.Decoder Instr) := (Classical.choose_spec s_F_ex).2.2.2.2.2.2.2.2.2.2.2.2.2.2.2.2.2.2.2.2.2.2.2.2.2.2.2.2.2.2.2.2.2.2.2.2.2.2.2.2.2.2.2.2.2.2.2.2.2.2.2.2.2.2.2.2.2.2.2.1 pc
theorem s_F_83 (pc : Nat) : s_F pc 83 = (Pure.pure Instr.aastore : ClassFile.Decoder Instr) := (Classical.choose_spec s_F_ex).2.2.2.2.2.2.2.2.2.2.2.2.2.2.2.2.2.2.2.2.2.2.2.2.2.2.2.2.2.2.2.2.2.2.2.2.2.2.2.2.2.2.2.2.2.2.2.2.2.2.2.2.2.2.2.2.2.2.2.2.1 pc
theorem s_F_84 (pc : Nat) : s_F pc 84 = (Pure.pure Instr.bastore : ClassFile.Decoder Instr) := (Classical.choose_spec s_F_ex).2.2.2.2.2.2.2.2.2.2.2.2.2.2.2.2.2.2.2.2.2.2.2.2.2.2.2.2.2.2.2.2.2.2.2.2.2.2.2.2.2.2.2.2.2.2.2.2.2.2.2.2.2.2.2.2.2.2.2.2.2.1 pc
theorem s_F_87 (pc : Nat) : s_F pc 87 = (Pure.pure Instr.pop : ClassFile.Decoder Instr) := (Classical.choose_spec s_F_ex).2.2.2.2.2.2.2.2.2.2.2.2.2.2.2.2.2.2.2.2.2.2.2.2.2.2.2.2.2.2.2.2.2.2.2.2.2.2.2.2.2.2.2.2.2.2.2.2.2.2.2.2.2.2.2.2.2.2.2.2.2.2.1 pc
theorem s_F_89 (pc : Nat) : s_F pc 89 = (Pure.pure Instr.dup : ClassFile.Decoder Instr) := (Classical.choose_spec s_F_ex).2.2.2.2.2.2.2.2.2.2.2.2.2.2.2.2.2.2.2.2.2.2.2.2.2.2.2.2.2.2.2.2.2.2.2.2.2.2.2.2.2.2.2.2.2.2.2.2.2.2.2.2.2.2.2.2.2.2.2.2.2.2.2.1 pc
theorem s_F_90 (pc : Nat) : s_F pc 90 = (Pure.pure Instr.dup_x1 : ClassFile.Decoder Instr) := (Classical.choose_spec s_F_ex).2.2.2.2.2.2.2.2.2.2.2.2.2.2.2.2.2.2.2.2.2.2.2.2.2.2.2.2.2.2.2.2.2.2.2.2.2.2.2.2.2.2.2.2.2.2.2.2.2.2.2.2.2.2.2.2.2.2.2.2.2.2.2.2.1 pc
theorem s_F_92 (pc : Nat) : s_F pc 92 = (Pure.pure Instr.dup2 : ClassFile.Decoder Instr) := (Classical.choose_spec s_F_ex).2.2.2.2.2.2.2.2.2.2.2.2.2.2.2.2.2.2.2.2.2.2.2.2.2.2.2.2.2.2.2.2.2.2.2.2.2.2.2.2.2.2.2.2.2.2.2.2.2.2.2.2.2.2.2.2.2.2.2.2.2.2.2.2.2.1 pc
theorem s_F_96 (pc : Nat) : s_F pc 96 = (Pure.pure Instr.iadd : ClassFile.Decoder Instr) := (Classical.choose_spec s_F_ex).2.2.2.2.2.2.2.2.2.2.2.2.2.2.2.2.2.2.2.2.2.2.2.2.2.2.2.2.2.2.2.2.2.2.2.2.2.2.2.2.2.2.2.2.2.2.2.2.2.2.2.2.2.2.2.2.2.2.2.2.2.2.2.2.2.2.1 pc
theorem s_F_97 (pc : Nat) : s_F pc 97 = (Pure.pure Instr.ladd : ClassFile.Decoder Instr) := (Classical.choose_spec s_F_ex).2.2.2.2.2.2.2.2.2.2.2.2.2.2.2.2.2.2.2.2.2.2.2.2.2.2.2.2.2.2.2.2.2.2.2.2.2.2.2.2.2.2.2.2.2.2.2.2.2.2.2.2.2.2.2.2.2.2.2.2.2.2.2.2.2.2.2.1 pc
theorem s_F_100 (pc : Nat) : s_F pc 100 = (Pure.pure Instr.isub : ClassFile.Decoder Instr) := (Classical.choose_spec s_F_ex).2.2.2.2.2.2.2.2.2.2.2.2.2.2.2.2.2.2.2.2.2.2.2.2.2.2.2.2.2.2.2.2.2.2.2.2.2.2.2.2.2.2.2.2.2.2.2.2.2.2.2.2.2.2.2.2.2.2.2.2.2.2.2.2.2.2.2.2.1 pc
theorem s_F_101 (pc : Nat) : s_F pc 101 = (Pure.pure Instr.lsub : ClassFile.Decoder Instr) := (Classical.choose_spec s_F_ex).2.2.2.2.2.2.2.2.2.2.2.2.2.2.2.2.2.2.2.2.2.2.2.2.2.2.2.2.2.2.2.2.2.2.2.2.2.2.2.2.2.2.2.2.2.2.2.2.2.2.2.2.2.2.2.2.2.2.2.2.2.2.2.2.2.2.2.2.2.1 pc
theorem s_F_104 (pc : Nat) : s_F pc 104 = (Pure.pure Instr.imul : ClassFile.Decoder Instr) := (Classical.choose_spec s_F_ex).2.2.2.2.2.2.2.2.2.2.2.2.2.2.2.2.2.2.2.2.2.2.2.2.2.2.2.2.2.2.2.2.2.2.2.2.2.2.2.2.2.2.2.2.2.2.2.2.2.2.2.2.2.2.2.2.2.2.2.2.2.2.2.2.2.2.2.2.2.2.1 pc
theorem s_F_105 (pc : Nat) : s_F pc 105 = (Pure.pure Instr.lmul : ClassFile.Decoder Instr) := (Classical.choose_spec s_F_ex).2.2.2.2.2.2.2.2.2.2.2.2.2.2.2.2.2.2.2.2.2.2.2.2.2.2.2.2.2.2.2.2.2.2.2.2.2.2.2.2.2.2.2.2.2.2.2.2.2.2.2.2.2.2.2.2.2.2.2.2.2.2.2.2.2.2.2.2.2.2.2.1 pc
theorem s_F_107 (pc : Nat) : s_F pc 107 = (Pure.pure Instr.dmul : ClassFile.Decoder Instr) := (Classical.choose_spec s_F_ex).2.2.2.2.2.2.2.2.2.2.2.2.2.2.2.2.2.2.2.2.2.2.2.2.2.2.2.2.2.2.2.2.2.2.2.2.2.2.2.2.2.2.2.2.2.2.2.2.2.2.2.2.2.2.2.2.2.2.2.2.2.2.2.2.2.2.2.2.2.2.2.2.1 pc
theorem s_F_108 (pc : Nat) : s_F pc 108 = (Pure.pure Instr.idiv : ClassFile.Decoder Instr) := (Classical.choose_spec s_F_ex).2.2.2.2.2.2.2.2.2.2.2.2.2.2.2.2.2.2.2.2.2.2.2.2.2.2.2.2.2.2.2.2.2.2.2.2.2.2.2.2.2.2.2.2.2.2.2.2.2.2.2.2.2.2.2.2.2.2.2.2.2.2.2.2.2.2.2.2.2.2.2.2.2.1 pc
theorem s_F_109 (pc : Nat) : s_F pc 109 = (Pure.pure Instr.ldiv : ClassFile.Decoder Instr) := (Classical.choose_spec s_F_ex).2.2.2.2.2.2.2.2.2.2.2.2.2.2.2.2.2.2.2.2.2.2.2.2.2.2.2.2.2.2.2.2.2.2.2.2.2.2.2.2.2.2.2.2.2.2.2.2.2.2.2.2.2.2.2.2.2.2.2.2.2.2.2.2.2.2.2.2.2.2.2.2.2.2.1 pc
theorem s_F_111 (pc : Nat) : s_F pc 111 = (Pure.pure Instr.ddiv : ClassFile.Decoder Instr) := (Classical.choose_spec s_F_ex).2.2.2.2.2.2.2.2.2.2.2.2.2.2.2.2.2.2.2.2.2.2.2.2.2.2.2.2.2.2.2.2.2.2.2.2.2.2.2.2.2.2.2.2.2.2.2.2.2.2.2.2.2.2.2.2.2.2.2.2.2.2.2.2.2.2.2.2.2.2.2.2.2.2.2.1 pc
theorem s_F_112 (pc : Nat) : s_F pc 112 = (Pure.pure Instr.irem : ClassFile.Decoder Instr) := (Classical.choose_spec s_F_ex).2.2.2.2.2.2.2.2.2.2.2.2.2.2.2.2.2.2.2.2.2.2.2.2.2.2.2.2.2.2.2.2.2.2.2.2.2.2.2.2.2.2.2.2.2.2.2.2.2.2.2.2.2.2.2.2.2.2.2.2.2.2.2.2.2.2.2.2.2.2.2.2.2.2.2.2.1 pc
theorem s_F_113 (pc : Nat) : s_F pc 113 = (Pure.pure Instr.lrem : ClassFile.Decoder Instr) := (Classical.choose_spec s_F_ex).2.2.2.2.2.2.2.2.2.2.2.2.2.2.2.2.2.2.2.2.2.2.2.2.2.2.2.2.2.2.2.2.2.2.2.2.2.2.2.2.2.2.2.2.2.2.2.2.2.2.2.2.2.2.2.2.2.2.2.2.2.2.2.2.2.2.2.2.2.2.2.2.2.2.2.2.2.1 pc
theorem s_F_116 (pc : Nat) : s_F pc 116 = (Pure.pure Instr.ineg : ClassFile.Decoder Instr) := (Classical.choose_spec s_F_ex).2.2.2.2.2.2.2.2.2.2.2.2.2.2.2.2.2.2.2.2.2.2.2.2.2.2.2.2.2.2.2.2.2.2.2.2.2.2.2.2.2.2.2.2.2.2.2.2.2.2.2.2.2.2.2.2.2.2.2.2.2.2.2.2.2.2.2.2.2.2.2.2.2.2.2.2.2.2.1 pc
theorem s_F_117 (pc : Nat) : s_F pc 117 = (Pure.pure Instr.lneg : ClassFile.Decoder Instr) := (Classical.choose_spec s_F_ex).2.2.2.2.2.2.2.2.2.2.2.2.2.2.2.2.2.2.2.2.2.2.2.2.2.2.2.2.2.2.2.2.2.2.2.2.2.2.2.2.2.2.2.2.2.2.2.2.2.2.2.2.2.2.2.2.2.2.2.2.2.2.2.2.2.2.2.2.2.2.2.2.2.2.2.2.2.2.2.1 pc
theorem s_F_120 (pc : Nat) : s_F pc 120 = (Pure.pure Instr.ishl : ClassFile.Decoder Instr) := (Classical.choose_spec s_F_ex).2.2.2.2.2.2.2.2.2.2.2.2.2.2.2.2.2.2.2.2.2.2.2.2.2.2.2.2.2.2.2.2.2.2.2.2.2.2.2.2.2.2.2.2.2.2.2.2.2.2.2.2.2.2.2.2.2.2.2.2.2.2.2.2.2.2.2.2.2.2.2.2.2.2.2.2.2.2.2.2.1 pc
theorem s_F_122 (pc : Nat) : s_F pc 122 = (Pure.pure Instr.ishr : ClassFile.Decoder Instr) := (Classical.choose_spec s_F_ex).2.2.2.2.2.2.2.2.2.2.2.2.2.2.2.2.2.2.2.2.2.2.2.2.2.2.2.2.2.2.2.2.2.2.2.2.2.2.2.2.2.2.2.2.2.2.2.2.2.2.2.2.2.2.2.2.2.2.2.2.2.2.2.2.2.2.2.2.2.2.2.2.2.2.2.2.2.2.2.2.2.1 pc
theorem s_F_124 (pc : Nat) : s_F pc 124 = (Pure.pure Instr.iushr : ClassFile.Decoder Instr) := (Classical.choose_spec s_F_ex).2.2.2.2.2.2.2.2.2.2.2.2.2.2.2.2.2.2.2.2.2.2.2.2.2.2.2.2.2.2.2.2.2.2.2.2.2.2.2.2.2.2.2.2.2.2.2.2.2.2.2.2.2.2.2.2.2.2.2.2.2.2.2.2.2.2.2.2.2.2.2.2.2.2.2.2.2.2.2.2.2.2.1 pc
theorem s_F_126 (pc : Nat) : s_F pc 126 = (Pure.pure Instr.iand : ClassFile.Decoder Instr) := (Classical.choose_spec s_F_ex).2.2.2.2.2.2.2.2.2.2.2.2.2.2.2.2.2.2.2.2.2.2.2.2.2.2.2.2.2.2.2.2.2.2.2.2.2.2.2.2.2.2.2.2.2.2.2.2.2.2.2.2.2.2.2.2.2.2.2.2.2.2.2.2.2.2.2.2.2.2.2.2.2.2.2.2.2.2.2.2.2.2.2.1 pc
theorem s_F_128 (pc : Nat) : s_F pc 128 = (Pure.pure Instr.ior : ClassFile.Decoder Instr) := (Classical.choose_spec s_F_ex).2.2.2.2.2.2.2.2.2.2.2.2.2.2.2.2.2.2.2.2.2.2.2.2.2.2.2.2.2.2.2.2.2.2.2.2.2.2.2.2.2.2.2.2.2.2.2.2.2.2.2.2.2.2.2.2.2.2.2.2.2.2.2.2.2.2.2.2.2.2.2.2.2.2.2.2.2.2.2.2.2.2.2.2.1 pc
theorem s_F_130 (pc : Nat) : s_F pc 130 = (Pure.pure Instr.ixor : ClassFile.Decoder Instr) := (Classical.choose_spec s_F_ex).2.2.2.2.2.2.2.2.2.2.2.2.2.2.2.2.2.2.2.2.2.2.2.2.2.2.2.2.2.2.2.2.2.2.2.2.2.2.2.2.2.2.2.2.2.2.2.2.2.2.2.2.2.2.2.2.2.2.2.2.2.2.2.2.2.2.2.2.2.2.2.2.2.2.2.2.2.2.2.2.2.2.2.2.2.1 pc
theorem s_F_132 (pc : Nat) : s_F pc 132 = (ClassFile.Reader.u1 >>= fun x => ClassFile.Reader.s1 >>= fun y => Pure.pure (Instr.iinc x y)) := (Classical.choose_spec s_F_ex).2.2.2.2.2.2.2.2.2.2.2.2.2.2.2.2.2.2.2.2.2.2.2.2.2.2.2.2.2.2.2.2.2.2.2.2.2.2.2.2.2.2.2.2.2.2.2.2.2.2.2.2.2.2.2.2.2.2.2.2.2.2.2.2.2.2.2.2.2.2.2.2.2.2.2.2.2.2.2.2.2.2.2.2.2.2.1 pc
theorem s_F_133 (pc : Nat) : s_F pc 133 = (Pure.pure Instr.i2l : ClassFile.Decoder Instr) := (Classical.choose_spec s_F_ex).2.2.2.2.2.2.2.2.2.2.2.2.2.2.2.2.2.2.2.2.2.2.2.2.2.2.2.2.2.2.2.2.2.2.2.2.2.2.2.2.2.2.2.2.2.2.2.2.2.2.2.2.2.2.2.2.2.2.2.2.2.2.2.2.2.2.2.2.2.2.2.2.2.2.2.2.2.2.2.2.2.2.2.2.2.2.2.1 pc
theorem s_F_135 (pc : Nat) : s_F pc 135 = (Pure.pure Instr.i2d : ClassFile.Decoder Instr) := (Classical.choose_spec s_F_ex).2.2.2.2.2.2.2.2.2.2.2.2.2.2.2.2.2.2.2.2.2.2.2.2.2.2.2.2.2.2.2.2.2.2.2.2.2.2.2.2.2.2.2.2.2.2.2.2.2.2.2.2.2.2.2.2.2.2.2.2.2.2.2.2.2.2.2.2.2.2.2.2.2.2.2.2.2.2.2.2.2.2.2.2.2.2.2.2.1 pc
theorem s_F_136 (pc : Nat) : s_F pc 136 = (Pure.pure Instr.l2i : ClassFile.Decoder Instr) := (Classical.choose_spec s_F_ex).2.2.2.2.2.2.2.2.2.2.2.2.2.2.2.2.2.2.2.2.2.2.2.2.2.2.2.2.2.2.2.2.2.2.2.2.2.2.2.2.2.2.2.2.2.2.2.2.2.2.2.2.2.2.2.2.2.2.2.2.2.2.2.2.2.2.2.2.2.2.2.2.2.2.2.2.2.2.2.2.2.2.2.2.2.2.2.2.2.1 pc
theorem s_F_145 (pc : Nat) : s_F pc 145 = (Pure.pure Instr.i2b : ClassFile.Decoder Instr) := (Classical.choose_spec s_F_ex).2.2.2.2.2.2.2.2.2.2.2.2.2.2.2.2.2.2.2.2.2.2.2.2.2.2.2.2.2.2.2.2.2.2.2.2.2.2.2.2.2.2.2.2.2.2.2.2.2.2.2.2.2.2.2.2.2.2.2.2.2.2.2.2.2.2.2.2.2.2.2.2.2.2.2.2.2.2.2.2.2.2.2.2.2.2.2.2.2.2.1 pc
theorem s_F_147 (pc : Nat) : s_F pc 147 = (Pure.pure Instr.i2s : ClassFile.Decoder Instr) := (Classical.choose_spec s_F_ex).2.2.2.2.2.2.2.2.2.2.2.2.2.2.2.2.2.2.2.2.2.2.2.2.2.2.2.2.2.2.2.2.2.2.2.2.2.2.2.2.2.2.2.2.2.2.2.2.2.2.2.2.2.2.2.2.2.2.2.2.2.2.2.2.2.2.2.2.2.2.2.2.2.2.2.2.2.2.2.2.2.2.2.2.2.2.2.2.2.2.2.1 pc
theorem s_F_148 (pc : Nat) : s_F pc 148 = (Pure.pure Instr.lcmp : ClassFile.Decoder Instr) := (Classical.choose_spec s_F_ex).2.2.2.2.2.2.2.2.2.2.2.2.2.2.2.2.2.2.2.2.2.2.2.2.2.2.2.2.2.2.2.2.2.2.2.2.2.2.2.2.2.2.2.2.2.2.2.2.2.2.2.2.2.2.2.2.2.2.2.2.2.2.2.2.2.2.2.2.2.2.2.2.2.2.2.2.2.2.2.2.2.2.2.2.2.2.2.2.2.2.2.2.1 pc
theorem s_F_153 (pc : Nat) : s_F pc 153 = (ClassFile.Reader.s2 >>= fun x => Pure.pure (Instr.ifCond .eq x)) := (Classical.choose_spec s_F_ex).2.2.2.2.2.2.2.2.2.2.2.2.2.2.2.2.2.2.2.2.2.2.2.2.2.2.2.2.2.2.2.2.2.2.2.2.2.2.2.2.2.2.2.2.2.2.2.2.2.2.2.2.2.2.2.2.2.2.2.2.2.2.2.2.2.2.2.2.2.2.2.2.2.2.2.2.2.2.2.2.2.2.2.2.2.2.2.2.2.2.2.2.2.1 pc
theorem s_F_154 (pc : Nat) : s_F pc 154 = (ClassFile.Reader.s2 >>= fun x => Pure.pure (Instr.ifCond .ne x)) := (Classical.choose_spec s_F_ex).2.2.2.2.2.2.2.2.2.2.2.2.2.2.2.2.2.2.2.2.2.2.2.2.2.2.2.2.2.2.2.2.2.2.2.2.2.2.2.2.2.2.2.2.2.2.2.2.2.2.2.2.2.2.2.2.2.2.2.2.2.2.2.2.2.2.2.2.2.2.2.2.2.2.2.2.2.2.2.2.2.2.2.2.2.2.2.2.2.2.2.2.2.2.1 pc
theorem s_F_155 (pc : Nat) : s_F pc 155 = (ClassFile.Reader.s2 >>= fun x => Pure.pure (Instr.ifCond .lt x)) := (Classical.choose_spec s_F_ex).2.2.2.2.2.2.2.2.2.2.2.2.2.2.2.2.2.2.2.2.2.2.2.2.2.2.2.2.2.2.2.2.2.2.2.2.2.2.2.2.2.2.2.2.2.2.2.2.2.2.2.2.2.2.2.2.2.2.2.2.2.2.2.2.2.2.2.2.2.2.2.2.2.2.2.2.2.2.2.2.2.2.2.2.2.2.2.2.2.2.2.2.2.2.2.1 pc
theorem s_F_156 (pc : Nat) : s_F pc 156 = (ClassFile.Reader.s2 >>= fun x => Pure.pure (Instr.ifCond .ge x)) := (Classical.choose_spec s_F_ex).2.2.2.2.2.2.2.2.2.2.2.2.2.2.2.2.2.2.2.2.2.2.2.2.2.2.2.2.2.2.2.2.2.2.2.2.2.2.2.2.2.2.2.2.2.2.2.2.2.2.2.2.2.2.2.2.2.2.2.2.2.2.2.2.2.2.2.2.2.2.2.2.2.2.2.2.2.2.2.2.2.2.2.2.2.2.2.2.2.2.2.2.2.2.2.2.1 pc
theorem s_F_157 (pc : Nat) : s_F pc 157 = (ClassFile.Reader.s2 >>= fun x => Pure.pure (Instr.ifCond .gt x)) := (Classical.choose_spec s_F_ex).2.2.2.2.2.2.2.2.2.2.2.2.2.2.2.2.2.2.2.2.2.2.2.2.2.2.2.2.2.2.2.2.2.2.2.2.2.2.2.2.2.2.2.2.2.2.2.2.2.2.2.2.2.2.2.2.2.2.2.2.2.2.2.2.2.2.2.2.2.2.2.2.2.2.2.2.2.2.2.2.2.2.2.2.2.2.2.2.2.2.2.2.2.2.2.2.2.1 pc
theorem s_F_158 (pc : Nat) : s_F pc 158 = (ClassFile.Reader.s2 >>= fun x => Pure.pure (Instr.ifCond .le x)) := (Classical.choose_spec s_F_ex).2.2.2.2.2.2.2.2.2.2.2.2.2.2.2.2.2.2.2.2.2.2.2.2.2.2.2.2.2.2.2.2.2.2.2.2.2.2.2.2.2.2.2.2.2.2.2.2.2.2.2.2.2.2.2.2.2.2.2.2.2.2.2.2.2.2.2.2.2.2.2.2.2.2.2.2.2.2.2.2.2.2.2.2.2.2.2.2.2.2.2.2.2.2.2.2.2.2.1 pc
theorem s_F_159 (pc : Nat) : s_F pc 159 = (ClassFile.Reader.s2 >>= fun x => Pure.pure (Instr.if_icmp .eq x)) := (Classical.choose_spec s_F_ex).2.2.2.2.2.2.2.2.2.2.2.2.2.2.2.2.2.2.2.2.2.2.2.2.2.2.2.2.2.2.2.2.2.2.2.2.2.2.2.2.2.2.2.2.2.2.2.2.2.2.2.2.2.2.2.2.2.2.2.2.2.2.2.2.2.2.2.2.2.2.2.2.2.2.2.2.2.2.2.2.2.2.2.2.2.2.2.2.2.2.2.2.2.2.2.2.2.2.2.1 pc
theorem s_F_160 (pc : Nat) : s_F pc 160 = (ClassFile.Reader.s2 >>= fun x => Pure.pure (Instr.if_icmp .ne x)) := (Classical.choose_spec s_F_ex).2.2.2.2.2.2.2.2.2.2.2.2.2.2.2.2.2.2.2.2.2.2.2.2.2.2.2.2.2.2.2.2.2.2.2.2.2.2.2.2.2.2.2.2.2.2.2.2.2.2.2.2.2.2.2.2.2.2.2.2.2.2.2.2.2.2.2.2.2.2.2.2.2.2.2.2.2.2.2.2.2.2.2.2.2.2.2.2.2.2.2.2.2.2.2.2.2.2.2.2.1 pc
theorem s_F_161 (pc : Nat) : s_F pc 161 = (ClassFile.Reader.s2 >>= fun x => Pure.pure (Instr.if_icmp .lt x)) := (Classical.choose_spec s_F_ex).2.2.2.2.2.2.2.2.2.2.2.2.2.2.2.2.2.2.2.2.2.2.2.2.2.2.2.2.2.2.2.2.2.2.2.2.2.2.2.2.2.2.2.2.2.2.2.2.2.2.2.2.2.2.2.2.2.2.2.2.2.2.2.2.2.2.2.2.2.2.2.2.2.2.2.2.2.2.2.2.2.2.2.2.2.2.2.2.2.2.2.2.2.2.2.2.2.2.2.2.2.1 pc
theorem s_F_162 (pc : Nat) : s_F pc 162 = (ClassFile.Reader.s2 >>= fun x => Pure.pure (Instr.if_icmp .ge x)) := (Classical.choose_spec s_F_ex).2.2.2.2.2.2.2.2.2.2.2.2.2.2.2.2.2.2.2.2.2.2.2.2.2.2.2.2.2.2.2.2.2.2.2.2.2.2.2.2.2.2.2.2.2.2.2.2.2.2.2.2.2.2.2.2.2.2.2.2.2.2.2.2.2.2.2.2.2.2.2.2.2.2.2.2.2.2.2.2.2.2.2.2.2.2.2.2.2.2.2.2.2.2.2.2.2.2.2.2.2.2.1 pc
theorem s_F_163 (pc : Nat) : s_F pc 163 = (ClassFile.Reader.s2 >>= fun x => Pure.pure (Instr.if_icmp .gt x)) := (Classical.choose_spec s_F_ex).2.2.2.2.2.2.2.2.2.2.2.2.2.2.2.2.2.2.2.2.2.2.2.2.2.2.2.2.2.2.2.2.2.2.2.2.2.2.2.2.2.2.2.2.2.2.2.2.2.2.2.2.2.2.2.2.2.2.2.2.2.2.2.2.2.2.2.2.2.2.2.2.2.2.2.2.2.2.2.2.2.2.2.2.2.2.2.2.2.2.2.2.2.2.2.2.2.2.2.2.2.2.2.1 pc
theorem s_F_164 (pc : Nat) : s_F pc 164 = (ClassFile.Reader.s2 >>= fun x => Pure.pure (Instr.if_icmp .le x)) := (Classical.choose_spec s_F_ex).2.2.2.2.2.2.2.2.2.2.2.2.2.2.2.2.2.2.2.2.2.2.2.2.2.2.2.2.2.2.2.2.2.2.2.2.2.2.2.2.2.2.2.2.2.2.2.2.2.2.2.2.2.2.2.2.2.2.2.2.2.2.2.2.2.2.2.2.2.2.2.2.2.2.2.2.2.2.2.2.2.2.2.2.2.2.2.2.2.2.2.2.2.2.2.2.2.2.2.2.2.2.2.2.1 pc
theorem s_F_167 (pc : Nat) : s_F pc 167 = (ClassFile.Reader.s2 >>= fun x => Pure.pure (Instr.goto x)) := (Classical.choose_spec s_F_ex).2.2.2.2.2.2.2.2.2.2.2.2.2.2.2.2.2.2.2.2.2.2.2.2.2.2.2.2.2.2.2.2.2.2.2.2.2.2.2.2.2.2.2.2.2.2.2.2.2.2.2.2.2.2.2.2.2.2.2.2.2.2.2.2.2.2.2.2.2.2.2.2.2.2.2.2.2.2.2.2.2.2.2.2.2.2.2.2.2.2.2.2.2.2.2.2.2.2.2.2.2.2.2.2.2.1 pc
theorem s_F_172 (pc : Nat) : s_F pc 172 = (Pure.pure Instr.ireturn : ClassFile.Decoder Instr) := (Classical.choose_spec s_F_ex).2.2.2.2.2.2.2.2.2.2.2.2.2.2.2.2.2.2.2.2.2.2.2.2.2.2.2.2.2.2.2.2.2.2.2.2.2.2.2.2.2.2.2.2.2.2.2.2.2.2.2.2.2.2.2.2.2.2.2.2.2.2.2.2.2.2.2.2.2.2.2.2.2.2.2.2.2.2.2.2.2.2.2.2.2.2.2.2.2.2.2.2.2.2.2.2.2.2.2.2.2.2.2.2.2.2.1 pc
theorem s_F_173 (pc : Nat) : s_F pc 173 = (Pure.pure Instr.lreturn : ClassFile.Decoder Instr) := (Classical.choose_spec s_F_ex).2.2.2.2.2.2.2.2.2.2.2.2.2.2.2.2.2.2.2.2.2.2.2.2.2.2.2.2.2.2.2.2.2.2.2.2.2.2.2.2.2.2.2.2.2.2.2.2.2.2.2.2.2.2.2.2.2.2.2.2.2.2.2.2.2.2.2.2.2.2.2.2.2.2.2.2.2.2.2.2.2.2.2.2.2.2.2.2.2.2.2.2.2.2.2.2.2.2.2.2.2.2.2.2.2.2.2.1 pc
theorem s_F_176 (pc : Nat) : s_F pc 176 = (Pure.pure Instr.areturn : ClassFile.Decoder Instr) := (Classical.choose_spec s_F_ex).2.2.2.2.2.2.2.2.2.2.2.2.2.2.2.2.2.2.2.2.2.2.2.2.2.2.2.2.2.2.2.2.2.2.2.2.2.2.2.2.2.2.2.2.2.2.2.2.2.2.2.2.2.2.2.2.2.2.2.2.2.2.2.2.2.2.2.2.2.2.2.2.2.2.2.2.2.2.2.2.2.2.2.2.2.2.2.2.2.2.2.2.2.2.2.2.2.2.2.2.2.2.2.2.2.2.2.2.1 pc
theorem s_F_177 (pc : Nat) : s_F pc 177 = (Pure.pure Instr.return_ : ClassFile.Decoder Instr) := (Classical.choose_spec s_F_ex).2.2.2.2.2.2.2.2.2.2.2.2.2.2.2.2.2.2.2.2.2.2.2.2.2.2.2.2.2.2.2.2.2.2.2.2.2.2.2.2.2.2.2.2.2.2.2.2.2.2.2.2.2.2.2.2.2.2.2.2.2.2.2.2.2.2.2.2.2.2.2.2.2.2.2.2.2.2.2.2.2.2.2.2.2.2.2.2.2.2.2.2.2.2.2.2.2.2.2.2.2.2.2.2.2.2.2.2.2.1 pc
theorem s_F_180 (pc : Nat) : s_F pc 180 = (ClassFile.Reader.u2 >>= fun x => Pure.pure (Instr.getfield x)) := (Classical.choose_spec s_F_ex).2.2.2.2.2.2.2.2.2.2.2.2.2.2.2.2.2.2.2.2.2.2.2.2.2.2.2.2.2.2.2.2.2.2.2.2.2.2.2.2.2.2.2.2.2.2.2.2.2.2.2.2.2.2.2.2.2.2.2.2.2.2.2.2.2.2.2.2.2.2.2.2.2.2.2.2.2.2.2.2.2.2.2.2.2.2.2.2.2.2.2.2.2.2.2.2.2.2.2.2.2.2.2.2.2.2.2.2.2.2.1 pc
theorem s_F_181 (pc : Nat) : s_F pc 181 = (ClassFile.Reader.u2 >>= fun x => Pure.pure (Instr.putfield x)) := (Classical.choose_spec s_F_ex).2.2.2.2.2.2.2.2.2.2.2.2.2.2.2.2.2.2.2.2.2.2.2.2.2.2.2.2.2.2.2.2.2.2.2.2.2.2.2.2.2.2.2.2.2.2.2.2.2.2.2.2.2.2.2.2.2.2.2.2.2.2.2.2.2.2.2.2.2.2.2.2.2.2.2.2.2.2.2.2.2.2.2.2.2.2.2.2.2.2.2.2.2.2.2.2.2.2.2.2.2.2.2.2.2.2.2.2.2.2.2.1 pc
theorem s_F_182 (pc : Nat) : s_F pc 182 = (ClassFile.Reader.u2 >>= fun x => Pure.pure (Instr.invokevirtual x)) := (Classical.choose_spec s_F_ex).2.2.2.2.2.2.2.2.2.2.2.2.2.2.2.2.2.2.2.2.2.2.2.2.2.2.2.2.2.2.2.2.2.2.2.2.2.2.2.2.2.2.2.2.2.2.2.2.2.2.2.2.2.2.2.2.2.2.2.2.2.2.2.2.2.2.2.2.2.2.2.2.2.2.2.2.2.2.2.2.2.2.2.2.2.2.2.2.2.2.2.2.2.2.2.2.2.2.2.2.2.2.2.2.2.2.2.2.2.2.2.2.1 pc
theorem s_F_183 (pc : Nat) : s_F pc 183 = (ClassFile.Reader.u2 >>= fun x => Pure.pure (Instr.invokespecial x)) := (Classical.choose_spec s_F_ex).2.2.2.2.2.2.2.2.2.2.2.2.2.2.2.2.2.2.2.2.2.2.2.2.2.2.2.2.2.2.2.2.2.2.2.2.2.2.2.2.2.2.2.2.2.2.2.2.2.2.2.2.2.2.2.2.2.2.2.2.2.2.2.2.2.2.2.2.2.2.2.2.2.2.2.2.2.2.2.2.2.2.2.2.2.2.2.2.2.2.2.2.2.2.2.2.2.2.2.2.2.2.2.2.2.2.2.2.2.2.2.2.2.1 pc
theorem s_F_184 (pc : Nat) : s_F pc 184 = (ClassFile.Reader.u2 >>= fun x => Pure.pure (Instr.invokestatic x)) := (Classical.choose_spec s_F_ex).2.2.2.2.2.2.2.2.2.2.2.2.2.2.2.2.2.2.2.2.2.2.2.2.2.2.2.2.2.2.2.2.2.2.2.2.2.2.2.2.2.2.2.2.2.2.2.2.2.2.2.2.2.2.2.2.2.2.2.2.2.2.2.2.2.2.2.2.2.2.2.2.2.2.2.2.2.2.2.2.2.2.2.2.2.2.2.2.2.2.2.2.2.2.2.2.2.2.2.2.2.2.2.2.2.2.2.2.2.2.2.2.2.2.1 pc
theorem s_F_187 (pc : Nat) : s_F pc 187 = (ClassFile.Reader.u2 >>= fun x => Pure.pure (Instr.new x)) := (Classical.choose_spec s_F_ex).2.2.2.2.2.2.2.2.2.2.2.2.2.2.2.2.2.2.2.2.2.2.2.2.2.2.2.2.2.2.2.2.2.2.2.2.2.2.2.2.2.2.2.2.2.2.2.2.2.2.2.2.2.2.2.2.2.2.2.2.2.2.2.2.2.2.2.2.2.2.2.2.2.2.2.2.2.2.2.2.2.2.2.2.2.2.2.2.2.2.2.2.2.2.2.2.2.2.2.2.2.2.2.2.2.2.2.2.2.2.2.2.2.2.2.1 pc
theorem s_F_189 (pc : Nat) : s_F pc 189 = (ClassFile.Reader.u2 >>= fun x => Pure.pure (Instr.anewarray x)) := (Classical.choose_spec s_F_ex).2.2.2.2.2.2.2.2.2.2.2.2.2.2.2.2.2.2.2.2.2.2.2.2.2.2.2.2.2.2.2.2.2.2.2.2.2.2.2.2.2.2.2.2.2.2.2.2.2.2.2.2.2.2.2.2.2.2.2.2.2.2.2.2.2.2.2.2.2.2.2.2.2.2.2.2.2.2.2.2.2.2.2.2.2.2.2.2.2.2.2.2.2.2.2.2.2.2.2.2.2.2.2.2.2.2.2.2.2.2.2.2.2.2.2.2.1 pc
theorem s_F_190 (pc : Nat) : s_F pc 190 = (Pure.pure Instr.arraylength : ClassFile.Decoder Instr) := (Classical.choose_spec s_F_ex).2.2.2.2.2.2.2.2.2.2.2.2.2.2.2.2.2.2.2.2.2.2.2.2.2.2.2.2.2.2.2.2.2.2.2.2.2.2.2.2.2.2.2.2.2.2.2.2.2.2.2.2.2.2.2.2.2.2.2.2.2.2.2.2.2.2.2.2.2.2.2.2.2.2.2.2.2.2.2.2.2.2.2.2.2.2.2.2.2.2.2.2.2.2.2.2.2.2.2.2.2.2.2.2.2.2.2.2.2.2.2.2.2.2.2.2.2.1 pc
theorem s_F_191 (pc : Nat) : s_F pc 191 = (Pure.pure Instr.athrow : ClassFile.Decoder Instr) := (Classical.choose_spec s_F_ex).2.2.2.2.2.2.2.2.2.2.2.2.2.2.2.2.2.2.2.2.2.2.2.2.2.2.2.2.2.2.2.2.2.2.2.2.2.2.2.2.2.2.2.2.2.2.2.2.2.2.2.2.2.2.2.2.2.2.2.2.2.2.2.2.2.2.2.2.2.2.2.2.2.2.2.2.2.2.2.2.2.2.2.2.2.2.2.2.2.2.2.2.2.2.2.2.2.2.2.2.2.2.2.2.2.2.2.2.2.2.2.2.2.2.2.2.2.2.1 pc
theorem s_F_198 (pc : Nat) : s_F pc 198 = (ClassFile.Reader.s2 >>= fun x => Pure.pure (Instr.ifnull x)) := (Classical.choose_spec s_F_ex).2.2.2.2.2.2.2.2.2.2.2.2.2.2.2.2.2.2.2.2.2.2.2.2.2.2.2.2.2.2.2.2.2.2.2.2.2.2.2.2.2.2.2.2.2.2.2.2.2.2.2.2.2.2.2.2.2.2.2.2.2.2.2.2.2.2.2.2.2.2.2.2.2.2.2.2.2.2.2.2.2.2.2.2.2.2.2.2.2.2.2.2.2.2.2.2.2.2.2.2.2.2.2.2.2.2.2.2.2.2.2.2.2.2.2.2.2.2.2.1 pc
theorem s_F_199 (pc : Nat) : s_F pc 199 = (ClassFile.Reader.s2 >>= fun x => Pure.pure (Instr.ifnonnull x)) := (Classical.choose_spec s_F_ex).2.2.2.2.2.2.2.2.2.2.2.2.2.2.2.2.2.2.2.2.2.2.2.2.2.2.2.2.2.2.2.2.2.2.2.2.2.2.2.2.2.2.2.2.2.2.2.2.2.2.2.2.2.2.2.2.2.2.2.2.2.2.2.2.2.2.2.2.2.2.2.2.2.2.2.2.2.2.2.2.2.2.2.2.2.2.2.2.2.2.2.2.2.2.2.2.2.2.2.2.2.2.2.2.2.2.2.2.2.2.2.2.2.2.2.2.2.2.2.2 pc
theorem s_bd {α β : Type} {x : ClassFile.Decoder α} {f : α → ClassFile.Decoder β} {cc : ByteArray} {p s : Nat} {a : α} (h : x cc p = .ok (a, s)) : (x >>= f) cc p = f a cc s := by
  show StateT.bind (x cc) (fun a => f a cc) p = _
  unfold StateT.bind
  rw [h]
  rfl
theorem s_mp {α β : Type} {x : ClassFile.Decoder α} {g : α → β} {cc : ByteArray} {p s : Nat} {a : α} (h : x cc p = .ok (a, s)) : (g <$> x) cc p = .ok (g a, s) := by
  show StateT.map g (x cc) p = _
  unfold StateT.map
  rw [h]
  rfl
theorem s_dc {cc : ByteArray} {pc : Nat} {b : UInt8} {t : List UInt8} (h : cc.data.toList.drop pc = b :: t) {k : Nat} (hk : b.toNat = k) {i : Instr} {nx : Nat} (hF : s_F pc k cc (pc + 1) = .ok (i, nx)) : decode cc pc = .ok (i, nx - pc) := by
  subst hk
  have h1 : ClassFile.Decoder.instr pc cc pc = .ok (i, nx) := by
    rw [s_F_in pc, s_bd (s_rd h)]
    exact hF
  unfold ClassFile.decode ClassFile.Reader.runAt
  show (ClassFile.Decoder.instr pc cc pc >>= _) = _
  rw [h1]
  rfl
theorem s_r2 {cc : ByteArray} {p : Nat} {b c : UInt8} {t : List UInt8} (h : cc.data.toList.drop p = b :: c :: t) : (ClassFile.Reader.u2 : ClassFile.Decoder Nat) cc p = .ok (b.toNat * 256 + c.toNat, p + 2) := by
  unfold ClassFile.Reader.u2
  rw [s_bd (s_rd h), s_bd (s_rd (s_dn h))]
  rfl
def s_n0 (bs : List UInt8) (k : Nat) : Option Nat := match bs with
  | b :: _ => bif Nat.beq b.toNat k then some 1 else none
  | [] => none
def s_n1 (bs : List UInt8) (k i : Nat) : Option Nat := match bs with
  | b :: c :: _ => bif Nat.beq b.toNat k && Nat.beq c.toNat i then some 2 else none
  | _ => none
def s_n2 (bs : List UInt8) (k i : Nat) : Option Nat := match bs with
  | b :: c :: d :: _ => bif Nat.beq b.toNat k && Nat.beq (c.toNat * 256 + d.toNat) i then some 3 else none
  | _ => none
def s_m1 (bs : List UInt8) (k : Nat) (v : Int) : Option Nat := match bs with
  | b :: c :: _ => bif Nat.beq b.toNat k && decide (ClassFile.Reader.signed 8 c.toNat = v) then some 2 else none
  | _ => none
def s_m2 (bs : List UInt8) (k : Nat) (v : Int) : Option Nat := match bs with
  | b :: c :: d :: _ => bif Nat.beq b.toNat k && decide (ClassFile.Reader.signed 16 (c.toNat * 256 + d.toNat) = v) then some 3 else none
  | _ => none
def s_mi3 (bs : List UInt8) (k i : Nat) (v : Int) : Option Nat := match bs with
  | b :: c :: d :: _ => bif Nat.beq b.toNat k && (Nat.beq c.toNat i && decide (ClassFile.Reader.signed 8 d.toNat = v)) then some 3 else none
  | _ => none
theorem s_bs {b : Bool} {x n : Nat} (h : (bif b then some x else none) = some n) : b = true ∧ n = x := by
  cases b
  · cases h
  · cases h
    exact ⟨rfl, rfl⟩
section F9
variable {cc : ByteArray} {pc n k : Nat} {bs : List UInt8}
theorem s_e0 {ins : Instr} (hF : ∀ pc, s_F pc k = (Pure.pure ins : ClassFile.Decoder Instr)) (h : s_n0 bs k = some n) (hd : cc.data.toList.drop pc = bs) : decode cc pc = .ok (ins, n) := by
  unfold s_n0 at h
  split at h
  next b t =>
    obtain ⟨h1, rfl⟩ := s_bs h
    have := s_dc hd (Nat.eq_of_beq_eq_true h1) (i := ins) (nx := pc + 1) (by rw [hF]; rfl)
    rw [this, Nat.add_sub_cancel_left]
  next => cases h
theorem s_e1 {c : Nat → Instr} {i : Nat} (hF : ∀ pc, s_F pc k = (ClassFile.Reader.u1 >>= fun x => Pure.pure (c x))) (h : s_n1 bs k i = some n) (hd : cc.data.toList.drop pc = bs) : decode cc pc = .ok (c i, n) := by
  unfold s_n1 at h
  split at h
  next b b2 t =>
    obtain ⟨h1, rfl⟩ := s_bs h
    rw [Bool.and_eq_true] at h1
    have h2 := Nat.eq_of_beq_eq_true h1.2
    have := s_dc hd (Nat.eq_of_beq_eq_true h1.1) (i := c i) (nx := pc + 2) (by
      rw [hF]
      rw [s_bd (s_rd (s_dn hd)), h2]
      rfl)
    rw [this, Nat.add_sub_cancel_left]
  next => cases h
theorem s_e2 {c : Nat → Instr} {i : Nat} (hF : ∀ pc, s_F pc k = (ClassFile.Reader.u2 >>= fun x => Pure.pure (c x))) (h : s_n2 bs k i = some n) (hd : cc.data.toList.drop pc = bs) : decode cc pc = .ok (c i, n) := by
  unfold s_n2 at h
  split at h
  next b b2 b3 t =>
    obtain ⟨h1, rfl⟩ := s_bs h
    rw [Bool.and_eq_true] at h1
    have h2 := Nat.eq_of_beq_eq_true h1.2
    have := s_dc hd (Nat.eq_of_beq_eq_true h1.1) (i := c i) (nx := pc + 3) (by
      rw [hF]
      rw [s_bd (s_r2 (s_dn hd)), h2]
      rfl)
    rw [this, Nat.add_sub_cancel_left]
  next => cases h
theorem s_f1 {c : Int → Instr} {v : Int} (hF : ∀ pc, s_F pc k = (ClassFile.Reader.s1 >>= fun x => Pure.pure (c x))) (h : s_m1 bs k v = some n) (hd : cc.data.toList.drop pc = bs) : decode cc pc = .ok (c v, n) := by
  unfold s_m1 at h
  split at h
  next b b2 t =>
    obtain ⟨h1, rfl⟩ := s_bs h
    rw [Bool.and_eq_true, decide_eq_true_eq] at h1
    have := s_dc hd (Nat.eq_of_beq_eq_true h1.1) (i := c v) (nx := pc + 2) (by
      rw [hF]
      unfold ClassFile.Reader.s1
      rw [s_bd (s_mp (s_rd (s_dn hd))), h1.2]
      rfl)
    rw [this, Nat.add_sub_cancel_left]
  next => cases h
theorem s_f2 {c : Int → Instr} {v : Int} (hF : ∀ pc, s_F pc k = (ClassFile.Reader.s2 >>= fun x => Pure.pure (c x))) (h : s_m2 bs k v = some n) (hd : cc.data.toList.drop pc = bs) : decode cc pc = .ok (c v, n) := by
  unfold s_m2 at h
  split at h
  next b b2 b3 t =>
    obtain ⟨h1, rfl⟩ := s_bs h
    rw [Bool.and_eq_true, decide_eq_true_eq] at h1
    have := s_dc hd (Nat.eq_of_beq_eq_true h1.1) (i := c v) (nx := pc + 3) (by
      rw [hF]
      unfold ClassFile.Reader.s2
      rw [s_bd (s_mp (s_r2 (s_dn hd))), h1.2]
      rfl)
    rw [this, Nat.add_sub_cancel_left]
  next => cases h
theorem s_fi3 {i : Nat} {v : Int} (h : s_mi3 bs 132 i v = some n) (hd : cc.data.toList.drop pc = bs) : decode cc pc = .ok (.iinc i v, n) := by
  unfold s_mi3 at h
  split at h
  next b b2 b3 t =>
    obtain ⟨h1, rfl⟩ := s_bs h
    rw [Bool.and_eq_true, Bool.and_eq_true, decide_eq_true_eq] at h1
    have h2 := Nat.eq_of_beq_eq_true h1.2.1
    have := s_dc hd (Nat.eq_of_beq_eq_true h1.1) (i := .iinc i v) (nx := pc + 3) (by
      rw [s_F_132]
      unfold ClassFile.Reader.s1
      rw [s_bd (s_rd (s_dn hd)), s_bd (s_mp (s_rd (s_dn (s_dn hd)))), h1.2.2, h2]
      rfl)
    rw [this, Nat.add_sub_cancel_left]
  next => cases h
end F9
def s_enc (bs : List UInt8) : Instr → Option Nat
  | .aaload => s_n0 bs 50
  | .aastore => s_n0 bs 83
  | .aconst_null => s_n0 bs 1
  | .areturn => s_n0 bs 176
  | .arraylength => s_n0 bs 190
  | .athrow => s_n0 bs 191
  | .baload => s_n0 bs 51
  | .bastore => s_n0 bs 84
  | .ddiv => s_n0 bs 111
  | .dmul => s_n0 bs 107
  | .dup => s_n0 bs 89
  | .dup_x1 => s_n0 bs 90
  | .dup2 => s_n0 bs 92
  | .i2b => s_n0 bs 145
  | .i2d => s_n0 bs 135
  | .i2l => s_n0 bs 133
  | .i2s => s_n0 bs 147
  | .iadd => s_n0 bs 96
  | .iaload => s_n0 bs 46
  | .iand => s_n0 bs 126
  | .iastore => s_n0 bs 79
  | .idiv => s_n0 bs 108
  | .imul => s_n0 bs 104
  | .ineg => s_n0 bs 116
  | .ior => s_n0 bs 128
  | .irem => s_n0 bs 112
  | .ireturn => s_n0 bs 172
  | .ishl => s_n0 bs 120
  | .ishr => s_n0 bs 122
  | .isub => s_n0 bs 100
  | .iushr => s_n0 bs 124
  | .ixor => s_n0 bs 130
  | .l2i => s_n0 bs 136
  | .ladd => s_n0 bs 97
  | .laload => s_n0 bs 47
  | .lastore => s_n0 bs 80
  | .lcmp => s_n0 bs 148
  | .ldiv => s_n0 bs 109
  | .lmul => s_n0 bs 105
  | .lneg => s_n0 bs 117
  | .lrem => s_n0 bs 113
  | .lreturn => s_n0 bs 173
  | .lsub => s_n0 bs 101
  | .pop => s_n0 bs 87
  | .return_ => s_n0 bs 177
  | .iconst v => bif decide (-1 ≤ v) && decide (v ≤ 5) then s_n0 bs (v + 3).toNat else none
  | .lconst v => s_n0 bs (9 + v.val)
  | .aload_n v => s_n0 bs (42 + v.val)
  | .astore_n v => s_n0 bs (75 + v.val)
  | .dload_n v => s_n0 bs (38 + v.val)
  | .dstore_n v => s_n0 bs (71 + v.val)
  | .iload_n v => s_n0 bs (26 + v.val)
  | .istore_n v => s_n0 bs (59 + v.val)
  | .lload_n v => s_n0 bs (30 + v.val)
  | .lstore_n v => s_n0 bs (63 + v.val)
  | .aload i => s_n1 bs 25 i
  | .astore i => s_n1 bs 58 i
  | .iload i => s_n1 bs 21 i
  | .istore i => s_n1 bs 54 i
  | .lload i => s_n1 bs 22 i
  | .lstore i => s_n1 bs 55 i
  | .ldc i => s_n1 bs 18 i
  | .anewarray i => s_n2 bs 189 i
  | .getfield i => s_n2 bs 180 i
  | .putfield i => s_n2 bs 181 i
  | .invokespecial i => s_n2 bs 183 i
  | .invokestatic i => s_n2 bs 184 i
  | .invokevirtual i => s_n2 bs 182 i
  | .ldc_w i => s_n2 bs 19 i
  | .ldc2_w i => s_n2 bs 20 i
  | .new i => s_n2 bs 187 i
  | .bipush i => s_m1 bs 16 i
  | .sipush i => s_m2 bs 17 i
  | .goto i => s_m2 bs 167 i
  | .ifnonnull i => s_m2 bs 199 i
  | .ifnull i => s_m2 bs 198 i
  | .ifCond c v => s_m2 bs (153 + s_cdn c) v
  | .if_icmp c v => s_m2 bs (159 + s_cdn c) v
  | .iinc i v => s_mi3 bs 132 i v
  | _ => none
theorem s_enc_ok {cc : ByteArray} {pc n : Nat} {bs : List UInt8} {ins : Instr} (h : s_enc bs ins = some n) (hd : cc.data.toList.drop pc = bs) : decode cc pc = .ok (ins, n) := by
  cases ins
  case aaload => exact s_e0 s_F_50 h hd
  case aastore => exact s_e0 s_F_83 h hd
  case aconst_null => exact s_e0 s_F_1 h hd
  case areturn => exact s_e0 s_F_176 h hd
  case arraylength => exact s_e0 s_F_190 h hd
  case athrow => exact s_e0 s_F_191 h hd
  case baload => exact s_e0 s_F_51 h hd
  case bastore => exact s_e0 s_F_84 h hd
  case ddiv => exact s_e0 s_F_111 h hd
  case dmul => exact s_e0 s_F_107 h hd
  case dup => exact s_e0 s_F_89 h hd
  case dup_x1 => exact s_e0 s_F_90 h hd
  case dup2 => exact s_e0 s_F_92 h hd
  case i2b => exact s_e0 s_F_145 h hd
  case i2d => exact s_e0 s_F_135 h hd
  case i2l => exact s_e0 s_F_133 h hd
  case i2s => exact s_e0 s_F_147 h hd
  case iadd => exact s_e0 s_F_96 h hd
  case iaload => exact s_e0 s_F_46 h hd
  case iand => exact s_e0 s_F_126 h hd
  case iastore => exact s_e0 s_F_79 h hd
  case idiv => exact s_e0 s_F_108 h hd
  case imul => exact s_e0 s_F_104 h hd
  case ineg => exact s_e0 s_F_116 h hd
  case ior => exact s_e0 s_F_128 h hd
  case irem => exact s_e0 s_F_112 h hd
  case ireturn => exact s_e0 s_F_172 h hd
  case ishl => exact s_e0 s_F_120 h hd
  case ishr => exact s_e0 s_F_122 h hd
  case isub => exact s_e0 s_F_100 h hd
  case iushr => exact s_e0 s_F_124 h hd
  case ixor => exact s_e0 s_F_130 h hd
  case l2i => exact s_e0 s_F_136 h hd
  case ladd => exact s_e0 s_F_97 h hd
  case laload => exact s_e0 s_F_47 h hd
  case lastore => exact s_e0 s_F_80 h hd
  case lcmp => exact s_e0 s_F_148 h hd
  case ldiv => exact s_e0 s_F_109 h hd
  case lmul => exact s_e0 s_F_105 h hd
  case lneg => exact s_e0 s_F_117 h hd
  case lrem => exact s_e0 s_F_113 h hd
  case lreturn => exact s_e0 s_F_173 h hd
  case lsub => exact s_e0 s_F_101 h hd
  case pop => exact s_e0 s_F_87 h hd
  case return_ => exact s_e0 s_F_177 h hd
  case iconst v =>
    have h : (bif decide (-1 ≤ v) && decide (v ≤ 5) then s_n0 bs (v + 3).toNat else none) = some n := h
    cases e : (decide (-1 ≤ v) && decide (v ≤ 5))
    · rw [e] at h
      cases h
    · rw [e] at h
      rw [Bool.and_eq_true, decide_eq_true_eq, decide_eq_true_eq] at e
      obtain rfl | rfl | rfl | rfl | rfl | rfl | rfl : v = -1 ∨ v = 0 ∨ v = 1 ∨ v = 2 ∨ v = 3 ∨ v = 4 ∨ v = 5 := by omega
      · exact s_e0 s_F_2 h hd
      · exact s_e0 s_F_3 h hd
      · exact s_e0 s_F_4 h hd
      · exact s_e0 s_F_5 h hd
      · exact s_e0 s_F_6 h hd
      · exact s_e0 s_F_7 h hd
      · exact s_e0 s_F_8 h hd
  case lconst v =>
    obtain ⟨_ | _ | v, hv⟩ := v
    · exact s_e0 s_F_9 h hd
    · exact s_e0 s_F_10 h hd
    · omega
  case aload_n v =>
    obtain ⟨_ | _ | _ | _ | v, hv⟩ := v
    · exact s_e0 s_F_42 h hd
    · exact s_e0 s_F_43 h hd
    · exact s_e0 s_F_44 h hd
    · exact s_e0 s_F_45 h hd
    · omega
  case astore_n v =>
    obtain ⟨_ | _ | _ | _ | v, hv⟩ := v
    · exact s_e0 s_F_75 h hd
    · exact s_e0 s_F_76 h hd
    · exact s_e0 s_F_77 h hd
    · exact s_e0 s_F_78 h hd
    · omega
  case dload_n v =>
    obtain ⟨_ | _ | _ | _ | v, hv⟩ := v
    · exact s_e0 s_F_38 h hd
    · exact s_e0 s_F_39 h hd
    · exact s_e0 s_F_40 h hd
    · exact s_e0 s_F_41 h hd
    · omega
  case dstore_n v =>
    obtain ⟨_ | _ | _ | _ | v, hv⟩ := v
    · exact s_e0 s_F_71 h hd
    · exact s_e0 s_F_72 h hd
    · exact s_e0 s_F_73 h hd
    · exact s_e0 s_F_74 h hd
    · omega
  case iload_n v =>
    obtain ⟨_ | _ | _ | _ | v, hv⟩ := v
    · exact s_e0 s_F_26 h hd
    · exact s_e0 s_F_27 h hd
    · exact s_e0 s_F_28 h hd
    · exact s_e0 s_F_29 h hd
    · omega
  case istore_n v =>
    obtain ⟨_ | _ | _ | _ | v, hv⟩ := v
    · exact s_e0 s_F_59 h hd
    · exact s_e0 s_F_60 h hd
    · exact s_e0 s_F_61 h hd
    · exact s_e0 s_F_62 h hd
    · omega
  case lload_n v =>
    obtain ⟨_ | _ | _ | _ | v, hv⟩ := v
    · exact s_e0 s_F_30 h hd
    · exact s_e0 s_F_31 h hd
    · exact s_e0 s_F_32 h hd
    · exact s_e0 s_F_33 h hd
    · omega
  case lstore_n v =>
    obtain ⟨_ | _ | _ | _ | v, hv⟩ := v
    · exact s_e0 s_F_63 h hd
    · exact s_e0 s_F_64 h hd
    · exact s_e0 s_F_65 h hd
    · exact s_e0 s_F_66 h hd
    · omega
  case aload i => exact s_e1 s_F_25 h hd
  case astore i => exact s_e1 s_F_58 h hd
  case iload i => exact s_e1 s_F_21 h hd
  case istore i => exact s_e1 s_F_54 h hd
  case lload i => exact s_e1 s_F_22 h hd
  case lstore i => exact s_e1 s_F_55 h hd
  case ldc i => exact s_e1 s_F_18 h hd
  case anewarray i => exact s_e2 s_F_189 h hd
  case getfield i => exact s_e2 s_F_180 h hd
  case putfield i => exact s_e2 s_F_181 h hd
  case invokespecial i => exact s_e2 s_F_183 h hd
  case invokestatic i => exact s_e2 s_F_184 h hd
  case invokevirtual i => exact s_e2 s_F_182 h hd
  case ldc_w i => exact s_e2 s_F_19 h hd
  case ldc2_w i => exact s_e2 s_F_20 h hd
  case new i => exact s_e2 s_F_187 h hd
  case bipush i => exact s_f1 s_F_16 h hd
  case sipush i => exact s_f2 s_F_17 h hd
  case goto i => exact s_f2 s_F_167 h hd
  case ifnonnull i => exact s_f2 s_F_199 h hd
  case ifnull i => exact s_f2 s_F_198 h hd
  case ifCond c v =>
    cases c
    · exact s_f2 s_F_153 h hd
    · exact s_f2 s_F_154 h hd
    · exact s_f2 s_F_155 h hd
    · exact s_f2 s_F_156 h hd
    · exact s_f2 s_F_157 h hd
    · exact s_f2 s_F_158 h hd
  case if_icmp c v =>
    cases c
    · exact s_f2 s_F_159 h hd
    · exact s_f2 s_F_160 h hd
    · exact s_f2 s_F_161 h hd
    · exact s_f2 s_F_162 h hd
    · exact s_f2 s_F_163 h hd
    · exact s_f2 s_F_164 h hd
  case iinc i v => exact s_fi3 h hd
  all_goals cases h
-- the pool entries of a class
def s_pl (o : Nat) : List g_LK := g_lk.filter (fun q => Nat.beq q.1 o)
def s_pq (o : Nat) (pl : List g_LK) (r : s_I) : Bool := match s_pool r.2.2.2.2.2.2.2 with
  | none => true
  | some i => Nat.ble 40 r.2.2.1 || pl.any (fun q => Nat.beq q.2.1 i && (Nat.beq q.1 o && (Nat.beq q.2.2.1 r.2.2.2.1 && (Nat.beq q.2.2.2.1 r.2.2.2.2.1 && (Nat.beq q.2.2.2.2.1 r.2.2.2.2.2.1 && decide (q.2.2.2.2.2.1 = r.2.2.2.2.2.2.1))))))
def s_fq (cc : ByteArray) (o : Nat) (pl : List g_LK) (bs : List UInt8) (r : s_I) : Bool := ((match s_enc bs r.2.2.2.2.2.2.2 with
  | some n => Nat.beq n r.2.1 && (Nat.beq (s_len r.2.2.2.2.2.2.2) n || (Nat.beq r.2.2.1 25 || Nat.ble 44 r.2.2.1))
  | none => false) && (s_okQ r.1 r.2.2.1 r.2.2.2.2.1 r.2.2.2.2.2.1 r.2.2.2.2.2.2.1 r.2.2.2.2.2.2.2 && s_pq o pl r)) || s_okI cc o r
theorem s_fq_ok {cc : ByteArray} {o : Nat} {pl : List g_LK} {bs : List UInt8} {r : s_I} (h : s_fq cc o pl bs r = true) (hd : cc.data.toList.drop r.1 = bs) (hp : ∀ q ∈ pl, q ∈ g_lk) : s_okI cc o r = true := by
  unfold s_fq at h
  rw [Bool.or_eq_true] at h
  rcases h with h | h
  · rw [Bool.and_eq_true, Bool.and_eq_true] at h
    obtain ⟨h1, h2, h3⟩ := h
    split at h1
    next n e =>
      rw [Bool.and_eq_true] at h1
      unfold s_okI
      rw [s_enc_ok e hd]
      refine (Bool.and_eq_true _ _).mpr ⟨?_, (Bool.and_eq_true _ _).mpr ⟨h2, ?_⟩⟩
      · show (decide (r.2.2.2.2.2.2.2 = r.2.2.2.2.2.2.2) && (Nat.beq n r.2.1 && (Nat.beq (s_len r.2.2.2.2.2.2.2) n || (Nat.beq r.2.2.1 25 || Nat.ble 44 r.2.2.1)))) = true
        rw [decide_eq_true rfl, h1.1, h1.2]
        rfl
      · unfold s_pq at h3
        split at h3
        next e9 =>
          rw [e9]
        next i e9 =>
          rw [e9]
          show (Nat.ble 40 r.2.2.1 || g_lk.any _) = true
          rw [Bool.or_eq_true] at h3 ⊢
          rcases h3 with h3 | h3
          · exact Or.inl h3
          · refine Or.inr ?_
            rw [List.any_eq_true] at h3 ⊢
            obtain ⟨q, hq, hb⟩ := h3
            refine ⟨q, hp q hq, ?_⟩
            simp only [Bool.and_eq_true] at hb ⊢
            exact ⟨hb.2.1, hb.1, hb.2.2⟩
    next => cases h1
  · exact h
def s_drk : Nat → List UInt8 → (List UInt8 → Bool) → Bool
  | 0, bs, k => k bs
  | n + 1, bs, k => match bs with
    | _ :: t => s_drk n t k
    | [] => k []
theorem s_drk_eq : ∀ (n : Nat) (bs : List UInt8) (k : List UInt8 → Bool), s_drk n bs k = k (bs.drop n)
  | 0, _, _ => rfl
  | n + 1, [], k => by simp [s_drk]
  | n + 1, _ :: t, k => s_drk_eq n t k
def s_w (cc : ByteArray) (o : Nat) (pl : List g_LK) : List s_I → Nat → List UInt8 → Bool
  | [], _, _ => true
  | r :: t, pc, bs => Nat.beq r.1 pc && (s_fq cc o pl bs r && s_fn (pc + r.2.1) (fun pc => s_drk r.2.1 bs (fun bs => s_w cc o pl t pc bs)))
theorem s_w_ok {cc : ByteArray} {o : Nat} {pl : List g_LK} (hp : ∀ q ∈ pl, q ∈ g_lk) : ∀ {l : List s_I} {pc : Nat} {bs : List UInt8}, s_w cc o pl l pc bs = true → cc.data.toList.drop pc = bs → ∀ r ∈ l, s_okI cc o r = true
  | [], _, _, _, _, _, hr => by cases hr
  | r0 :: t, pc, bs, h, hd, r, hr => by
    have h : (Nat.beq r0.1 pc && (s_fq cc o pl bs r0 && s_fn (pc + r0.2.1) (fun pc => s_drk r0.2.1 bs (fun bs => s_w cc o pl t pc bs)))) = true := h
    rw [Bool.and_eq_true, Bool.and_eq_true, Nat.beq_eq, s_fn_eq, s_drk_eq] at h
    obtain ⟨h1, h2, h3⟩ := h
    rcases List.mem_cons.mp hr with rfl | hr
    · exact s_fq_ok h2 (by rw [h1]; exact hd) hp
    · exact s_w_ok hp h3 (by rw [← hd, List.drop_drop]) r hr
theorem s_pl_in (o : Nat) : ∀ q ∈ s_pl o, q ∈ g_lk := fun q h => (List.mem_filter.mp h).1
def s_wj (j : Nat) (l : List s_I) : Bool := s_fn (g_me j).2.1 (fun o => s_w (g_by j) o (s_pl o) l 0 (g_by j).data.toList)
theorem s_wj_ok {j : Nat} {l : List s_I} (h : s_wj j l = true) : l.all (s_okI (g_by j) (g_me j).2.1) = true := by
  unfold s_wj at h
  rw [s_fn_eq] at h
  exact List.all_eq_true.mpr (s_w_ok (s_pl_in _) h rfl)
def s_wl (cc : ByteArray) (l : List s_I) (pc : Nat) : Bool := s_w cc 13 (s_pl 13) l pc (cc.data.toList.drop pc)
theorem s_wl_ok {cc : ByteArray} {l : List s_I} {pc : Nat} (h : s_wl cc l pc = true) : l.all (s_okI cc 13) = true := List.all_eq_true.mpr (s_w_ok (s_pl_in _) h rfl)
