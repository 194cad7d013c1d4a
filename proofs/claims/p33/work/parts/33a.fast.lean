-- the instructions of a list are those that stand in the byte code: a walk over its bytes (made by wip/fast/mkfast.py)
set_option maxRecDepth 20000
theorem s_rd {cc : ByteArray} {p : Nat} {b : UInt8} {t : List UInt8} (h : cc.data.toList.drop p = b :: t) : (ClassFile.Reader.u1 : ClassFile.Decoder Nat) cc p = .ok (b.toNat, p + 1) := by
  obtain ⟨⟨l⟩⟩ := cc
  have h : l.drop p = b :: t := h
  have h0 : l[p]? = some b := by
    have h1 : (l.drop p)[0]? = some b := by rw [h]; rfl
    rw [List.getElem?_drop] at h1
    exact h1
  obtain ⟨hl, hb⟩ := List.getElem?_eq_some_iff.mp h0
  have hs : p < (ByteArray.mk ⟨l⟩).size := hl
  have e : (ClassFile.Reader.u1 : ClassFile.Decoder Nat) ⟨⟨l⟩⟩ p = (if h : p < (ByteArray.mk ⟨l⟩).size then (fun (_ : ByteArray) (_ : Nat) => (Except.ok ((ByteArray.mk ⟨l⟩)[p].toNat, p + 1) : Except ClassFile.DecodeError (Nat × Nat))) else (fun _ _ => .error (.truncated p))) ⟨⟨l⟩⟩ p := rfl
  rw [e, dif_pos hs]
  show Except.ok (l[p].toNat, p + 1) = _
  rw [hb]
theorem s_dn {cc : ByteArray} {p : Nat} {b : UInt8} {t : List UInt8} (h : cc.data.toList.drop p = b :: t) : cc.data.toList.drop (p + 1) = t := by
  rw [← List.drop_drop, h]
  rfl
theorem s_F_ex : ∃ F : Nat → Nat → ClassFile.Decoder Instr, (∀ pc, ClassFile.Decoder.instr pc = ClassFile.Reader.u1 >>= F pc) ∧
  (∀ pc, F pc 1 = pure .aconst_null) ∧
  (∀ pc, F pc 2 = pure (.iconst (-1))) ∧
  (∀ pc, F pc 3 = pure (.iconst 0)) ∧
  (∀ pc, F pc 4 = pure (.iconst 1)) ∧
  (∀ pc, F pc 5 = pure (.iconst 2)) ∧
  (∀ pc, F pc 6 = pure (.iconst 3)) ∧
  (∀ pc, F pc 7 = pure (.iconst 4)) ∧
  (∀ pc, F pc 8 = pure (.iconst 5)) ∧
  (∀ pc, F pc 9 = pure (.lconst 0)) ∧
  (∀ pc, F pc 10 = pure (.lconst 1)) ∧
  (∀ pc, F pc 16 = (do pure (.bipush (← ClassFile.Reader.s1)))) ∧
  (∀ pc, F pc 17 = (do pure (.sipush (← ClassFile.Reader.s2)))) ∧
  (∀ pc, F pc 18 = (do pure (.ldc (← ClassFile.Reader.u1)))) ∧
  (∀ pc, F pc 19 = (do pure (.ldc_w (← ClassFile.Reader.u2)))) ∧
  (∀ pc, F pc 20 = (do pure (.ldc2_w (← ClassFile.Reader.u2)))) ∧
  (∀ pc, F pc 21 = (do pure (.iload (← ClassFile.Reader.u1)))) ∧
  (∀ pc, F pc 22 = (do pure (.lload (← ClassFile.Reader.u1)))) ∧
  (∀ pc, F pc 25 = (do pure (.aload (← ClassFile.Reader.u1)))) ∧
  (∀ pc, F pc 26 = pure (.iload_n 0)) ∧
  (∀ pc, F pc 27 = pure (.iload_n 1)) ∧
  (∀ pc, F pc 28 = pure (.iload_n 2)) ∧
  (∀ pc, F pc 29 = pure (.iload_n 3)) ∧
  (∀ pc, F pc 30 = pure (.lload_n 0)) ∧
  (∀ pc, F pc 31 = pure (.lload_n 1)) ∧
  (∀ pc, F pc 32 = pure (.lload_n 2)) ∧
  (∀ pc, F pc 33 = pure (.lload_n 3)) ∧
  (∀ pc, F pc 38 = pure (.dload_n 0)) ∧
  (∀ pc, F pc 39 = pure (.dload_n 1)) ∧
  (∀ pc, F pc 40 = pure (.dload_n 2)) ∧
  (∀ pc, F pc 41 = pure (.dload_n 3)) ∧
  (∀ pc, F pc 42 = pure (.aload_n 0)) ∧
  (∀ pc, F pc 43 = pure (.aload_n 1)) ∧
  (∀ pc, F pc 44 = pure (.aload_n 2)) ∧
  (∀ pc, F pc 45 = pure (.aload_n 3)) ∧
  (∀ pc, F pc 46 = pure .iaload) ∧
  (∀ pc, F pc 47 = pure .laload) ∧
  (∀ pc, F pc 50 = pure .aaload) ∧
  (∀ pc, F pc 51 = pure .baload) ∧
  (∀ pc, F pc 54 = (do pure (.istore (← ClassFile.Reader.u1)))) ∧
  (∀ pc, F pc 55 = (do pure (.lstore (← ClassFile.Reader.u1)))) ∧
  (∀ pc, F pc 58 = (do pure (.astore (← ClassFile.Reader.u1)))) ∧
  (∀ pc, F pc 59 = pure (.istore_n 0)) ∧
  (∀ pc, F pc 60 = pure (.istore_n 1)) ∧
  (∀ pc, F pc 61 = pure (.istore_n 2)) ∧
  (∀ pc, F pc 62 = pure (.istore_n 3)) ∧
  (∀ pc, F pc 63 = pure (.lstore_n 0)) ∧
  (∀ pc, F pc 64 = pure (.lstore_n 1)) ∧
  (∀ pc, F pc 65 = pure (.lstore_n 2)) ∧
  (∀ pc, F pc 66 = pure (.lstore_n 3)) ∧
  (∀ pc, F pc 71 = pure (.dstore_n 0)) ∧
  (∀ pc, F pc 72 = pure (.dstore_n 1)) ∧
  (∀ pc, F pc 73 = pure (.dstore_n 2)) ∧
  (∀ pc, F pc 74 = pure (.dstore_n 3)) ∧
  (∀ pc, F pc 75 = pure (.astore_n 0)) ∧
  (∀ pc, F pc 76 = pure (.astore_n 1)) ∧
  (∀ pc, F pc 77 = pure (.astore_n 2)) ∧
  (∀ pc, F pc 78 = pure (.astore_n 3)) ∧
  (∀ pc, F pc 79 = pure .iastore) ∧
  (∀ pc, F pc 80 = pure .lastore) ∧
  (∀ pc, F pc 83 = pure .aastore) ∧
  (∀ pc, F pc 84 = pure .bastore) ∧
  (∀ pc, F pc 87 = pure .pop) ∧
  (∀ pc, F pc 89 = pure .dup) ∧
  (∀ pc, F pc 90 = pure .dup_x1) ∧
  (∀ pc, F pc 92 = pure .dup2) ∧
  (∀ pc, F pc 96 = pure .iadd) ∧
  (∀ pc, F pc 97 = pure .ladd) ∧
  (∀ pc, F pc 100 = pure .isub) ∧
  (∀ pc, F pc 101 = pure .lsub) ∧
  (∀ pc, F pc 104 = pure .imul) ∧
  (∀ pc, F pc 105 = pure .lmul) ∧
  (∀ pc, F pc 107 = pure .dmul) ∧
  (∀ pc, F pc 108 = pure .idiv) ∧
  (∀ pc, F pc 109 = pure .ldiv) ∧
  (∀ pc, F pc 111 = pure .ddiv) ∧
  (∀ pc, F pc 112 = pure .irem) ∧
  (∀ pc, F pc 113 = pure .lrem) ∧
  (∀ pc, F pc 116 = pure .ineg) ∧
  (∀ pc, F pc 117 = pure .lneg) ∧
  (∀ pc, F pc 120 = pure .ishl) ∧
  (∀ pc, F pc 122 = pure .ishr) ∧
  (∀ pc, F pc 124 = pure .iushr) ∧
  (∀ pc, F pc 126 = pure .iand) ∧
  (∀ pc, F pc 128 = pure .ior) ∧
  (∀ pc, F pc 130 = pure .ixor) ∧
  (∀ pc, F pc 132 = (do pure (.iinc (← ClassFile.Reader.u1) (← ClassFile.Reader.s1)))) ∧
  (∀ pc, F pc 133 = pure .i2l) ∧
  (∀ pc, F pc 135 = pure .i2d) ∧
  (∀ pc, F pc 136 = pure .l2i) ∧
  (∀ pc, F pc 145 = pure .i2b) ∧
  (∀ pc, F pc 147 = pure .i2s) ∧
  (∀ pc, F pc 148 = pure .lcmp) ∧
  (∀ pc, F pc 153 = (do pure (.ifCond .eq (← ClassFile.Reader.s2)))) ∧
  (∀ pc, F pc 154 = (do pure (.ifCond .ne (← ClassFile.Reader.s2)))) ∧
  (∀ pc, F pc 155 = (do pure (.ifCond .lt (← ClassFile.Reader.s2)))) ∧
  (∀ pc, F pc 156 = (do pure (.ifCond .ge (← ClassFile.Reader.s2)))) ∧
  (∀ pc, F pc 157 = (do pure (.ifCond .gt (← ClassFile.Reader.s2)))) ∧
  (∀ pc, F pc 158 = (do pure (.ifCond .le (← ClassFile.Reader.s2)))) ∧
  (∀ pc, F pc 159 = (do pure (.if_icmp .eq (← ClassFile.Reader.s2)))) ∧
  (∀ pc, F pc 160 = (do pure (.if_icmp .ne (← ClassFile.Reader.s2)))) ∧
  (∀ pc, F pc 161 = (do pure (.if_icmp .lt (← ClassFile.Reader.s2)))) ∧
  (∀ pc, F pc 162 = (do pure (.if_icmp .ge (← ClassFile.Reader.s2)))) ∧
  (∀ pc, F pc 163 = (do pure (.if_icmp .gt (← ClassFile.Reader.s2)))) ∧
  (∀ pc, F pc 164 = (do pure (.if_icmp .le (← ClassFile.Reader.s2)))) ∧
  (∀ pc, F pc 167 = (do pure (.goto (← ClassFile.Reader.s2)))) ∧
  (∀ pc, F pc 172 = pure .ireturn) ∧
  (∀ pc, F pc 173 = pure .lreturn) ∧
  (∀ pc, F pc 176 = pure .areturn) ∧
  (∀ pc, F pc 177 = pure .return_) ∧
  (∀ pc, F pc 180 = (do pure (.getfield (← ClassFile.Reader.u2)))) ∧
  (∀ pc, F pc 181 = (do pure (.putfield (← ClassFile.Reader.u2)))) ∧
  (∀ pc, F pc 182 = (do pure (.invokevirtual (← ClassFile.Reader.u2)))) ∧
  (∀ pc, F pc 183 = (do pure (.invokespecial (← ClassFile.Reader.u2)))) ∧
  (∀ pc, F pc 184 = (do pure (.invokestatic (← ClassFile.Reader.u2)))) ∧
  (∀ pc, F pc 187 = (do pure (.new (← ClassFile.Reader.u2)))) ∧
  (∀ pc, F pc 189 = (do pure (.anewarray (← ClassFile.Reader.u2)))) ∧
  (∀ pc, F pc 190 = pure .arraylength) ∧
  (∀ pc, F pc 191 = pure .athrow) ∧
  (∀ pc, F pc 198 = (do pure (.ifnull (← ClassFile.Reader.s2)))) ∧
  (∀ pc, F pc 199 = (do pure (.ifnonnull (← ClassFile.Reader.s2)))) := by
  refine ⟨_, fun _ => rfl, fun _ => rfl, fun _ => rfl, fun _ => rfl, fun _ => rfl, fun _ => rfl, fun _ => rfl, fun _ => rfl, fun _ => rfl, fun _ => rfl, fun _ => rfl, fun _ => rfl, fun _ => rfl, fun _ => rfl, fun _ => rfl, fun _ => rfl, fun _ => rfl, fun _ => rfl, fun _ => rfl, fun _ => rfl, fun _ => rfl, fun _ => rfl, fun _ => rfl, fun _ => rfl, fun _ => rfl, fun _ => rfl, fun _ => rfl, fun _ => rfl, fun _ => rfl, fun _ => rfl, fun _ => rfl, fun _ => rfl, fun _ => rfl, fun _ => rfl, fun _ => rfl, fun _ => rfl, fun _ => rfl, fun _ => rfl, fun _ => rfl, fun _ => rfl, fun _ => rfl, fun _ => rfl, fun _ => rfl, fun _ => rfl, fun _ => rfl, fun _ => rfl, fun _ => rfl, fun _ => rfl, fun _ => rfl, fun _ => rfl, fun _ => rfl, fun _ => rfl, fun _ => rfl, fun _ => rfl, fun _ => rfl, fun _ => rfl, fun _ => rfl, fun _ => rfl, fun _ => rfl, fun _ => rfl, fun _ => rfl, fun _ => rfl, fun _ => rfl, fun _ => rfl, fun _ => rfl, fun _ => rfl, fun _ => rfl, fun _ => rfl, fun _ => rfl, fun _ => rfl, fun _ => rfl, fun _ => rfl, fun _ => rfl, fun _ => rfl, fun _ => rfl, fun _ => rfl, fun _ => rfl, fun _ => rfl, fun _ => rfl, fun _ => rfl, fun _ => rfl, fun _ => rfl, fun _ => rfl, fun _ => rfl, fun _ => rfl, fun _ => rfl, fun _ => rfl, fun _ => rfl, fun _ => rfl, fun _ => rfl, fun _ => rfl, fun _ => rfl, fun _ => rfl, fun _ => rfl, fun _ => rfl, fun _ => rfl, fun _ => rfl, fun _ => rfl, fun _ => rfl, fun _ => rfl, fun _ => rfl, fun _ => rfl, fun _ => rfl, fun _ => rfl, fun _ => rfl, fun _ => rfl, fun _ => rfl, fun _ => rfl, fun _ => rfl, fun _ => rfl, fun _ => rfl, fun _ => rfl, fun _ => rfl, fun _ => rfl, fun _ => rfl, fun _ => rfl, fun _ => rfl, fun _ => rfl, fun _ => rfl, fun _ => rfl, fun _ => rfl⟩
noncomputable def s_F : Nat → Nat → ClassFile.Decoder Instr := Classical.choose s_F_ex
theorem s_F_in (pc : Nat) : ClassFile.Decoder.instr pc = ClassFile.Reader.u1 >>= s_F pc := (Classical.choose_spec s_F_ex).1 pc
theorem s_F_1 (pc : Nat) : s_F pc 1 = pure .aconst_null := (Classical.choose_spec s_F_ex).2.1 pc
theorem s_F_2 (pc : Nat) : s_F pc 2 = pure (.iconst (-1)) := (Classical.choose_spec s_F_ex).2.2.1 pc
theorem s_F_3 (pc : Nat) : s_F pc 3 = pure (.iconst 0) := (Classical.choose_spec s_F_ex).2.2.2.1 pc
theorem s_F_4 (pc : Nat) : s_F pc 4 = pure (.iconst 1) := (Classical.choose_spec s_F_ex).2.2.2.2.1 pc
theorem s_F_5 (pc : Nat) : s_F pc 5 = pure (.iconst 2) := (Classical.choose_spec s_F_ex).2.2.2.2.2.1 pc
theorem s_F_6 (pc : Nat) : s_F pc 6 = pure (.iconst 3) := (Classical.choose_spec s_F_ex).2.2.2.2.2.2.1 pc
theorem s_F_7 (pc : Nat) : s_F pc 7 = pure (.iconst 4) := (Classical.choose_spec s_F_ex).2.2.2.2.2.2.2.1 pc
theorem s_F_8 (pc : Nat) : s_F pc 8 = pure (.iconst 5) := (Classical.choose_spec s_F_ex).2.2.2.2.2.2.2.2.1 pc
theorem s_F_9 (pc : Nat) : s_F pc 9 = pure (.lconst 0) := (Classical.choose_spec s_F_ex).2.2.2.2.2.2.2.2.2.1 pc
theorem s_F_10 (pc : Nat) : s_F pc 10 = pure (.lconst 1) := (Classical.choose_spec s_F_ex).2.2.2.2.2.2.2.2.2.2.1 pc
theorem s_F_16 (pc : Nat) : s_F pc 16 = (do pure (.bipush (← ClassFile.Reader.s1))) := (Classical.choose_spec s_F_ex).2.2.2.2.2.2.2.2.2.2.2.1 pc
theorem s_F_17 (pc : Nat) : s_F pc 17 = (do pure (.sipush (← ClassFile.Reader.s2))) := (Classical.choose_spec s_F_ex).2.2.2.2.2.2.2.2.2.2.2.2.1 pc
theorem s_F_18 (pc : Nat) : s_F pc 18 = (do pure (.ldc (← ClassFile.Reader.u1))) := (Classical.choose_spec s_F_ex).2.2.2.2.2.2.2.2.2.2.2.2.2.1 pc
theorem s_F_19 (pc : Nat) : s_F pc 19 = (do pure (.ldc_w (← ClassFile.Reader.u2))) := (Classical.choose_spec s_F_ex).2.2.2.2.2.2.2.2.2.2.2.2.2.2.1 pc
theorem s_F_20 (pc : Nat) : s_F pc 20 = (do pure (.ldc2_w (← ClassFile.Reader.u2))) := (Classical.choose_spec s_F_ex).2.2.2.2.2.2.2.2.2.2.2.2.2.2.2.1 pc
theorem s_F_21 (pc : Nat) : s_F pc 21 = (do pure (.iload (← ClassFile.Reader.u1))) := (Classical.choose_spec s_F_ex).2.2.2.2.2.2.2.2.2.2.2.2.2.2.2.2.1 pc
theorem s_F_22 (pc : Nat) : s_F pc 22 = (do pure (.lload (← ClassFile.Reader.u1))) := (Classical.choose_spec s_F_ex).2.2.2.2.2.2.2.2.2.2.2.2.2.2.2.2.2.1 pc
theorem s_F_25 (pc : Nat) : s_F pc 25 = (do pure (.aload (← ClassFile.Reader.u1))) := (Classical.choose_spec s_F_ex).2.2.2.2.2.2.2.2.2.2.2.2.2.2.2.2.2.2.1 pc
theorem s_F_26 (pc : Nat) : s_F pc 26 = pure (.iload_n 0) := (Classical.choose_spec s_F_ex).2.2.2.2.2.2.2.2.2.2.2.2.2.2.2.2.2.2.2.1 pc
theorem s_F_27 (pc : Nat) : s_F pc 27 = pure (.iload_n 1) := (Classical.choose_spec s_F_ex).2.2.2.2.2.2.2.2.2.2.2.2.2.2.2.2.2.2.2.2.1 pc
theorem s_F_28 (pc : Nat) : s_F pc 28 = pure (.iload_n 2) := (Classical.choose_spec s_F_ex).2.2.2.2.2.2.2.2.2.2.2.2.2.2.2.2.2.2.2.2.2.1 pc
theorem s_F_29 (pc : Nat) : s_F pc 29 = pure (.iload_n 3) := (Classical.choose_spec s_F_ex).2.2.2.2.2.2.2.2.2.2.2.2.2.2.2.2.2.2.2.2.2.2.1 pc
theorem s_F_30 (pc : Nat) : s_F pc 30 = pure (.lload_n 0) := (Classical.choose_spec s_F_ex).2.2.2.2.2.2.2.2.2.2.2.2.2.2.2.2.2.2.2.2.2.2.2.1 pc
theorem s_F_31 (pc : Nat) : s_F pc 31 = pure (.lload_n 1) := (Classical.choose_spec s_F_ex).2.2.2.2.2.2.2.2.2.2.2.2.2.2.2.2.2.2.2.2.2.2.2.2.1 pc
theorem s_F_32 (pc : Nat) : s_F pc 32 = pure (.lload_n 2) := (Classical.choose_spec s_F_ex).2.2.2.2.2.2.2.2.2.2.2.2.2.2.2.2.2.2.2.2.2.2.2.2.2.1 pc
theorem s_F_33 (pc : Nat) : s_F pc 33 = pure (.lload_n 3) := (Classical.choose_spec s_F_ex).2.2.2.2.2.2.2.2.2.2.2.2.2.2.2.2.2.2.2.2.2.2.2.2.2.2.1 pc
theorem s_F_38 (pc : Nat) : s_F pc 38 = pure (.dload_n 0) := (Classical.choose_spec s_F_ex).2.2.2.2.2.2.2.2.2.2.2.2.2.2.2.2.2.2.2.2.2.2.2.2.2.2.2.1 pc
theorem s_F_39 (pc : Nat) : s_F pc 39 = pure (.dload_n 1) := (Classical.choose_spec s_F_ex).2.2.2.2.2.2.2.2.2.2.2.2.2.2.2.2.2.2.2.2.2.2.2.2.2.2.2.2.1 pc
theorem s_F_40 (pc : Nat) : s_F pc 40 = pure (.dload_n 2) := (Classical.choose_spec s_F_ex).2.2.2.2.2.2.2.2.2.2.2.2.2.2.2.2.2.2.2.2.2.2.2.2.2.2.2.2.2.1 pc
theorem s_F_41 (pc : Nat) : s_F pc 41 = pure (.dload_n 3) := (Classical.choose_spec s_F_ex).2.2.2.2.2.2.2.2.2.2.2.2.2.2.2.2.2.2.2.2.2.2.2.2.2.2.2.2.2.2.1 pc
theorem s_F_42 (pc : Nat) : s_F pc 42 = pure (.aload_n 0) := (Classical.choose_spec s_F_ex).2.2.2.2.2.2.2.2.2.2.2.2.2.2.2.2.2.2.2.2.2.2.2.2.2.2.2.2.2.2.2.1 pc
theorem s_F_43 (pc : Nat) : s_F pc 43 = pure (.aload_n 1) := (Classical.choose_spec s_F_ex).2.2.2.2.2.2.2.2.2.2.2.2.2.2.2.2.2.2.2.2.2.2.2.2.2.2.2.2.2.2.2.2.1 pc
theorem s_F_44 (pc : Nat) : s_F pc 44 = pure (.aload_n 2) := (Classical.choose_spec s_F_ex).2.2.2.2.2.2.2.2.2.2.2.2.2.2.2.2.2.2.2.2.2.2.2.2.2.2.2.2.2.2.2.2.2.1 pc
theorem s_F_45 (pc : Nat) : s_F pc 45 = pure (.aload_n 3) := (Classical.choose_spec s_F_ex).2.2.2.2.2.2.2.2.2.2.2.2.2.2.2.2.2.2.2.2.2.2.2.2.2.2.2.2.2.2.2.2.2.2.1 pc
theorem s_F_46 (pc : Nat) : s_F pc 46 = pure .iaload := (Classical.choose_spec s_F_ex).2.2.2.2.2.2.2.2.2.2.2.2.2.2.2.2.2.2.2.2.2.2.2.2.2.2.2.2.2.2.2.2.2.2.2.1 pc
theorem s_F_47 (pc : Nat) : s_F pc 47 = pure .laload := (Classical.choose_spec s_F_ex).2.2.2.2.2.2.2.2.2.2.2.2.2.2.2.2.2.2.2.2.2.2.2.2.2.2.2.2.2.2.2.2.2.2.2.2.1 pc
theorem s_F_50 (pc : Nat) : s_F pc 50 = pure .aaload := (Classical.choose_spec s_F_ex).2.2.2.2.2.2.2.2.2.2.2.2.2.2.2.2.2.2.2.2.2.2.2.2.2.2.2.2.2.2.2.2.2.2.2.2.2.1 pc
theorem s_F_51 (pc : Nat) : s_F pc 51 = pure .baload := (Classical.choose_spec s_F_ex).2.2.2.2.2.2.2.2.2.2.2.2.2.2.2.2.2.2.2.2.2.2.2.2.2.2.2.2.2.2.2.2.2.2.2.2.2.2.1 pc
theorem s_F_54 (pc : Nat) : s_F pc 54 = (do pure (.istore (← ClassFile.Reader.u1))) := (Classical.choose_spec s_F_ex).2.2.2.2.2.2.2.2.2.2.2.2.2.2.2.2.2.2.2.2.2.2.2.2.2.2.2.2.2.2.2.2.2.2.2.2.2.2.2.1 pc
theorem s_F_55 (pc : Nat) : s_F pc 55 = (do pure (.lstore (← ClassFile.Reader.u1))) := (Classical.choose_spec s_F_ex).2.2.2.2.2.2.2.2.2.2.2.2.2.2.2.2.2.2.2.2.2.2.2.2.2.2.2.2.2.2.2.2.2.2.2.2.2.2.2.2.1 pc
theorem s_F_58 (pc : Nat) : s_F pc 58 = (do pure (.astore (← ClassFile.Reader.u1))) := (Classical.choose_spec s_F_ex).2.2.2.2.2.2.2.2.2.2.2.2.2.2.2.2.2.2.2.2.2.2.2.2.2.2.2.2.2.2.2.2.2.2.2.2.2.2.2.2.2.1 pc
theorem s_F_59 (pc : Nat) : s_F pc 59 = pure (.istore_n 0) := (Classical.choose_spec s_F_ex).2.2.2.2.2.2.2.2.2.2.2.2.2.2.2.2.2.2.2.2.2.2.2.2.2.2.2.2.2.2.2.2.2.2.2.2.2.2.2.2.2.2.1 pc
theorem s_F_60 (pc : Nat) : s_F pc 60 = pure (.istore_n 1) := (Classical.choose_spec s_F_ex).2.2.2.2.2.2.2.2.2.2.2.2.2.2.2.2.2.2.2.2.2.2.2.2.2.2.2.2.2.2.2.2.2.2.2.2.2.2.2.2.2.2.2.1 pc
theorem s_F_61 (pc : Nat) : s_F pc 61 = pure (.istore_n 2) := (Classical.choose_spec s_F_ex).2.2.2.2.2.2.2.2.2.2.2.2.2.2.2.2.2.2.2.2.2.2.2.2.2.2.2.2.2.2.2.2.2.2.2.2.2.2.2.2.2.2.2.2.1 pc
theorem s_F_62 (pc : Nat) : s_F pc 62 = pure (.istore_n 3) := (Classical.choose_spec s_F_ex).2.2.2.2.2.2.2.2.2.2.2.2.2.2.2.2.2.2.2.2.2.2.2.2.2.2.2.2.2.2.2.2.2.2.2.2.2.2.2.2.2.2.2.2.2.1 pc
theorem s_F_63 (pc : Nat) : s_F pc 63 = pure (.lstore_n 0) := (Classical.choose_spec s_F_ex).2.2.2.2.2.2.2.2.2.2.2.2.2.2.2.2.2.2.2.2.2.2.2.2.2.2.2.2.2.2.2.2.2.2.2.2.2.2.2.2.2.2.2.2.2.2.1 pc
theorem s_F_64 (pc : Nat) : s_F pc 64 = pure (.lstore_n 1) := (Classical.choose_spec s_F_ex).2.2.2.2.2.2.2.2.2.2.2.2.2.2.2.2.2.2.2.2.2.2.2.2.2.2.2.2.2.2.2.2.2.2.2.2.2.2.2.2.2.2.2.2.2.2.2.1 pc
theorem s_F_65 (pc : Nat) : s_F pc 65 = pure (.lstore_n 2) := (Classical.choose_spec s_F_ex).2.2.2.2.2.2.2.2.2.2.2.2.2.2.2.2.2.2.2.2.2.2.2.2.2.2.2.2.2.2.2.2.2.2.2.2.2.2.2.2.2.2.2.2.2.2.2.2.1 pc
theorem s_F_66 (pc : Nat) : s_F pc 66 = pure (.lstore_n 3) := (Classical.choose_spec s_F_ex).2.2.2.2.2.2.2.2.2.2.2.2.2.2.2.2.2.2.2.2.2.2.2.2.2.2.2.2.2.2.2.2.2.2.2.2.2.2.2.2.2.2.2.2.2.2.2.2.2.1 pc
theorem s_F_71 (pc : Nat) : s_F pc 71 = pure (.dstore_n 0) := (Classical.choose_spec s_F_ex).2.2.2.2.2.2.2.2.2.2.2.2.2.2.2.2.2.2.2.2.2.2.2.2.2.2.2.2.2.2.2.2.2.2.2.2.2.2.2.2.2.2.2.2.2.2.2.2.2.2.1 pc
theorem s_F_72 (pc : Nat) : s_F pc 72 = pure (.dstore_n 1) := (Classical.choose_spec s_F_ex).2.2.2.2.2.2.2.2.2.2.2.2.2.2.2.2.2.2.2.2.2.2.2.2.2.2.2.2.2.2.2.2.2.2.2.2.2.2.2.2.2.2.2.2.2.2.2.2.2.2.2.1 pc
theorem s_F_73 (pc : Nat) : s_F pc 73 = pure (.dstore_n 2) := (Classical.choose_spec s_F_ex).2.2.2.2.2.2.2.2.2.2.2.2.2.2.2.2.2.2.2.2.2.2.2.2.2.2.2.2.2.2.2.2.2.2.2.2.2.2.2.2.2.2.2.2.2.2.2.2.2.2.2.2.1 pc
theorem s_F_74 (pc : Nat) : s_F pc 74 = pure (.dstore_n 3) := (Classical.choose_spec s_F_ex).2.2.2.2.2.2.2.2.2.2.2.2.2.2.2.2.2.2.2.2.2.2.2.2.2.2.2.2.2.2.2.2.2.2.2.2.2.2.2.2.2.2.2.2.2.2.2.2.2.2.2.2.2.1 pc
theorem s_F_75 (pc : Nat) : s_F pc 75 = pure (.astore_n 0) := (Classical.choose_spec s_F_ex).2.2.2.2.2.2.2.2.2.2.2.2.2.2.2.2.2.2.2.2.2.2.2.2.2.2.2.2.2.2.2.2.2.2.2.2.2.2.2.2.2.2.2.2.2.2.2.2.2.2.2.2.2.2.1 pc
theorem s_F_76 (pc : Nat) : s_F pc 76 = pure (.astore_n 1) := (Classical.choose_spec s_F_ex).2.2.2.2.2.2.2.2.2.2.2.2.2.2.2.2.2.2.2.2.2.2.2.2.2.2.2.2.2.2.2.2.2.2.2.2.2.2.2.2.2.2.2.2.2.2.2.2.2.2.2.2.2.2.2.1 pc
theorem s_F_77 (pc : Nat) : s_F pc 77 = pure (.astore_n 2) := (Classical.choose_spec s_F_ex).2.2.2.2.2.2.2.2.2.2.2.2.2.2.2.2.2.2.2.2.2.2.2.2.2.2.2.2.2.2.2.2.2.2.2.2.2.2.2.2.2.2.2.2.2.2.2.2.2.2.2.2.2.2.2.2.1 pc
theorem s_F_78 (pc : Nat) : s_F pc 78 = pure (.astore_n 3) := (Classical.choose_spec s_F_ex).2.2.2.2.2.2.2.2.2.2.2.2.2.2.2.2.2.2.2.2.2.2.2.2.2.2.2.2.2.2.2.2.2.2.2.2.2.2.2.2.2.2.2.2.2.2.2.2.2.2.2.2.2.2.2.2.2.1 pc
theorem s_F_79 (pc : Nat) : s_F pc 79 = pure .iastore := (Classical.choose_spec s_F_ex).2.2.2.2.2.2.2.2.2.2.2.2.2.2.2.2.2.2.2.2.2.2.2.2.2.2.2.2.2.2.2.2.2.2.2.2.2.2.2.2.2.2.2.2.2.2.2.2.2.2.2.2.2.2.2.2.2.2.1 pc
theorem s_F_80 (pc : Nat) : s_F pc 80 = pure .lastore := (Classical.choose_spec s_F_ex).2.2.2.2.2.2.2.2.2.2.2.2.2.2.2.2.2.2.2.2.2.2.2.2.2.2.2.2.2.2.2.2.2.2.2.2.2.2.2.2.2.2.2.2.2.2.2.2.2.2.2.2.2.2.2.2.2.2.2.1 pc
theorem s_F_83 (pc : Nat) : s_F pc 83 = pure .aastore := (Classical.choose_spec s_F_ex).2.2.2.2.2.2.2.2.2.2.2.2.2.2.2.2.2.2.2.2.2.2.2.2.2.2.2.2.2.2.2.2.2.2.2.2.2.2.2.2.2.2.2.2.2.2.2.2.2.2.2.2.2.2.2.2.2.2.2.2.1 pc
theorem s_F_84 (pc : Nat) : s_F pc 84 = pure .bastore := (Classical.choose_spec s_F_ex).2.2.2.2.2.2.2.2.2.2.2.2.2.2.2.2.2.2.2.2.2.2.2.2.2.2.2.2.2.2.2.2.2.2.2.2.2.2.2.2.2.2.2.2.2.2.2.2.2.2.2.2.2.2.2.2.2.2.2.2.2.1 pc
theorem s_F_87 (pc : Nat) : s_F pc 87 = pure .pop := (Classical.choose_spec s_F_ex).2.2.2.2.2.2.2.2.2.2.2.2.2.2.2.2.2.2.2.2.2.2.2.2.2.2.2.2.2.2.2.2.2.2.2.2.2.2.2.2.2.2.2.2.2.2.2.2.2.2.2.2.2.2.2.2.2.2.2.2.2.2.1 pc
theorem s_F_89 (pc : Nat) : s_F pc 89 = pure .dup := (Classical.choose_spec s_F_ex).2.2.2.2.2.2.2.2.2.2.2.2.2.2.2.2.2.2.2.2.2.2.2.2.2.2.2.2.2.2.2.2.2.2.2.2.2.2.2.2.2.2.2.2.2.2.2.2.2.2.2.2.2.2.2.2.2.2.2.2.2.2.2.1 pc
theorem s_F_90 (pc : Nat) : s_F pc 90 = pure .dup_x1 := (Classical.choose_spec s_F_ex).2.2.2.2.2.2.2.2.2.2.2.2.2.2.2.2.2.2.2.2.2.2.2.2.2.2.2.2.2.2.2.2.2.2.2.2.2.2.2.2.2.2.2.2.2.2.2.2.2.2.2.2.2.2.2.2.2.2.2.2.2.2.2.2.1 pc
theorem s_F_92 (pc : Nat) : s_F pc 92 = pure .dup2 := (Classical.choose_spec s_F_ex).2.2.2.2.2.2.2.2.2.2.2.2.2.2.2.2.2.2.2.2.2.2.2.2.2.2.2.2.2.2.2.2.2.2.2.2.2.2.2.2.2.2.2.2.2.2.2.2.2.2.2.2.2.2.2.2.2.2.2.2.2.2.2.2.2.1 pc
theorem s_F_96 (pc : Nat) : s_F pc 96 = pure .iadd := (Classical.choose_spec s_F_ex).2.2.2.2.2.2.2.2.2.2.2.2.2.2.2.2.2.2.2.2.2.2.2.2.2.2.2.2.2.2.2.2.2.2.2.2.2.2.2.2.2.2.2.2.2.2.2.2.2.2.2.2.2.2.2.2.2.2.2.2.2.2.2.2.2.2.1 pc
theorem s_F_97 (pc : Nat) : s_F pc 97 = pure .ladd := (Classical.choose_spec s_F_ex).2.2.2.2.2.2.2.2.2.2.2.2.2.2.2.2.2.2.2.2.2.2.2.2.2.2.2.2.2.2.2.2.2.2.2.2.2.2.2.2.2.2.2.2.2.2.2.2.2.2.2.2.2.2.2.2.2.2.2.2.2.2.2.2.2.2.2.1 pc
theorem s_F_100 (pc : Nat) : s_F pc 100 = pure .isub := (Classical.choose_spec s_F_ex).2.2.2.2.2.2.2.2.2.2.2.2.2.2.2.2.2.2.2.2.2.2.2.2.2.2.2.2.2.2.2.2.2.2.2.2.2.2.2.2.2.2.2.2.2.2.2.2.2.2.2.2.2.2.2.2.2.2.2.2.2.2.2.2.2.2.2.2.1 pc
theorem s_F_101 (pc : Nat) : s_F pc 101 = pure .lsub := (Classical.choose_spec s_F_ex).2.2.2.2.2.2.2.2.2.2.2.2.2.2.2.2.2.2.2.2.2.2.2.2.2.2.2.2.2.2.2.2.2.2.2.2.2.2.2.2.2.2.2.2.2.2.2.2.2.2.2.2.2.2.2.2.2.2.2.2.2.2.2.2.2.2.2.2.2.1 pc
theorem s_F_104 (pc : Nat) : s_F pc 104 = pure .imul := (Classical.choose_spec s_F_ex).2.2.2.2.2.2.2.2.2.2.2.2.2.2.2.2.2.2.2.2.2.2.2.2.2.2.2.2.2.2.2.2.2.2.2.2.2.2.2.2.2.2.2.2.2.2.2.2.2.2.2.2.2.2.2.2.2.2.2.2.2.2.2.2.2.2.2.2.2.2.1 pc
theorem s_F_105 (pc : Nat) : s_F pc 105 = pure .lmul := (Classical.choose_spec s_F_ex).2.2.2.2.2.2.2.2.2.2.2.2.2.2.2.2.2.2.2.2.2.2.2.2.2.2.2.2.2.2.2.2.2.2.2.2.2.2.2.2.2.2.2.2.2.2.2.2.2.2.2.2.2.2.2.2.2.2.2.2.2.2.2.2.2.2.2.2.2.2.2.1 pc
theorem s_F_107 (pc : Nat) : s_F pc 107 = pure .dmul := (Classical.choose_spec s_F_ex).2.2.2.2.2.2.2.2.2.2.2.2.2.2.2.2.2.2.2.2.2.2.2.2.2.2.2.2.2.2.2.2.2.2.2.2.2.2.2.2.2.2.2.2.2.2.2.2.2.2.2.2.2.2.2.2.2.2.2.2.2.2.2.2.2.2.2.2.2.2.2.2.1 pc
theorem s_F_108 (pc : Nat) : s_F pc 108 = pure .idiv := (Classical.choose_spec s_F_ex).2.2.2.2.2.2.2.2.2.2.2.2.2.2.2.2.2.2.2.2.2.2.2.2.2.2.2.2.2.2.2.2.2.2.2.2.2.2.2.2.2.2.2.2.2.2.2.2.2.2.2.2.2.2.2.2.2.2.2.2.2.2.2.2.2.2.2.2.2.2.2.2.2.1 pc
theorem s_F_109 (pc : Nat) : s_F pc 109 = pure .ldiv := (Classical.choose_spec s_F_ex).2.2.2.2.2.2.2.2.2.2.2.2.2.2.2.2.2.2.2.2.2.2.2.2.2.2.2.2.2.2.2.2.2.2.2.2.2.2.2.2.2.2.2.2.2.2.2.2.2.2.2.2.2.2.2.2.2.2.2.2.2.2.2.2.2.2.2.2.2.2.2.2.2.2.1 pc
theorem s_F_111 (pc : Nat) : s_F pc 111 = pure .ddiv := (Classical.choose_spec s_F_ex).2.2.2.2.2.2.2.2.2.2.2.2.2.2.2.2.2.2.2.2.2.2.2.2.2.2.2.2.2.2.2.2.2.2.2.2.2.2.2.2.2.2.2.2.2.2.2.2.2.2.2.2.2.2.2.2.2.2.2.2.2.2.2.2.2.2.2.2.2.2.2.2.2.2.2.1 pc
theorem s_F_112 (pc : Nat) : s_F pc 112 = pure .irem := (Classical.choose_spec s_F_ex).2.2.2.2.2.2.2.2.2.2.2.2.2.2.2.2.2.2.2.2.2.2.2.2.2.2.2.2.2.2.2.2.2.2.2.2.2.2.2.2.2.2.2.2.2.2.2.2.2.2.2.2.2.2.2.2.2.2.2.2.2.2.2.2.2.2.2.2.2.2.2.2.2.2.2.2.1 pc
theorem s_F_113 (pc : Nat) : s_F pc 113 = pure .lrem := (Classical.choose_spec s_F_ex).2.2.2.2.2.2.2.2.2.2.2.2.2.2.2.2.2.2.2.2.2.2.2.2.2.2.2.2.2.2.2.2.2.2.2.2.2.2.2.2.2.2.2.2.2.2.2.2.2.2.2.2.2.2.2.2.2.2.2.2.2.2.2.2.2.2.2.2.2.2.2.2.2.2.2.2.2.1 pc
theorem s_F_116 (pc : Nat) : s_F pc 116 = pure .ineg := (Classical.choose_spec s_F_ex).2.2.2.2.2.2.2.2.2.2.2.2.2.2.2.2.2.2.2.2.2.2.2.2.2.2.2.2.2.2.2.2.2.2.2.2.2.2.2.2.2.2.2.2.2.2.2.2.2.2.2.2.2.2.2.2.2.2.2.2.2.2.2.2.2.2.2.2.2.2.2.2.2.2.2.2.2.2.1 pc
theorem s_F_117 (pc : Nat) : s_F pc 117 = pure .lneg := (Classical.choose_spec s_F_ex).2.2.2.2.2.2.2.2.2.2.2.2.2.2.2.2.2.2.2.2.2.2.2.2.2.2.2.2.2.2.2.2.2.2.2.2.2.2.2.2.2.2.2.2.2.2.2.2.2.2.2.2.2.2.2.2.2.2.2.2.2.2.2.2.2.2.2.2.2.2.2.2.2.2.2.2.2.2.2.1 pc
theorem s_F_120 (pc : Nat) : s_F pc 120 = pure .ishl := (Classical.choose_spec s_F_ex).2.2.2.2.2.2.2.2.2.2.2.2.2.2.2.2.2.2.2.2.2.2.2.2.2.2.2.2.2.2.2.2.2.2.2.2.2.2.2.2.2.2.2.2.2.2.2.2.2.2.2.2.2.2.2.2.2.2.2.2.2.2.2.2.2.2.2.2.2.2.2.2.2.2.2.2.2.2.2.2.1 pc
theorem s_F_122 (pc : Nat) : s_F pc 122 = pure .ishr := (Classical.choose_spec s_F_ex).2.2.2.2.2.2.2.2.2.2.2.2.2.2.2.2.2.2.2.2.2.2.2.2.2.2.2.2.2.2.2.2.2.2.2.2.2.2.2.2.2.2.2.2.2.2.2.2.2.2.2.2.2.2.2.2.2.2.2.2.2.2.2.2.2.2.2.2.2.2.2.2.2.2.2.2.2.2.2.2.2.1 pc
theorem s_F_124 (pc : Nat) : s_F pc 124 = pure .iushr := (Classical.choose_spec s_F_ex).2.2.2.2.2.2.2.2.2.2.2.2.2.2.2.2.2.2.2.2.2.2.2.2.2.2.2.2.2.2.2.2.2.2.2.2.2.2.2.2.2.2.2.2.2.2.2.2.2.2.2.2.2.2.2.2.2.2.2.2.2.2.2.2.2.2.2.2.2.2.2.2.2.2.2.2.2.2.2.2.2.2.1 pc
theorem s_F_126 (pc : Nat) : s_F pc 126 = pure .iand := (Classical.choose_spec s_F_ex).2.2.2.2.2.2.2.2.2.2.2.2.2.2.2.2.2.2.2.2.2.2.2.2.2.2.2.2.2.2.2.2.2.2.2.2.2.2.2.2.2.2.2.2.2.2.2.2.2.2.2.2.2.2.2.2.2.2.2.2.2.2.2.2.2.2.2.2.2.2.2.2.2.2.2.2.2.2.2.2.2.2.2.1 pc
theorem s_F_128 (pc : Nat) : s_F pc 128 = pure .ior := (Classical.choose_spec s_F_ex).2.2.2.2.2.2.2.2.2.2.2.2.2.2.2.2.2.2.2.2.2.2.2.2.2.2.2.2.2.2.2.2.2.2.2.2.2.2.2.2.2.2.2.2.2.2.2.2.2.2.2.2.2.2.2.2.2.2.2.2.2.2.2.2.2.2.2.2.2.2.2.2.2.2.2.2.2.2.2.2.2.2.2.2.1 pc
theorem s_F_130 (pc : Nat) : s_F pc 130 = pure .ixor := (Classical.choose_spec s_F_ex).2.2.2.2.2.2.2.2.2.2.2.2.2.2.2.2.2.2.2.2.2.2.2.2.2.2.2.2.2.2.2.2.2.2.2.2.2.2.2.2.2.2.2.2.2.2.2.2.2.2.2.2.2.2.2.2.2.2.2.2.2.2.2.2.2.2.2.2.2.2.2.2.2.2.2.2.2.2.2.2.2.2.2.2.2.1 pc
theorem s_F_132 (pc : Nat) : s_F pc 132 = (do pure (.iinc (← ClassFile.Reader.u1) (← ClassFile.Reader.s1))) := (Classical.choose_spec s_F_ex).2.2.2.2.2.2.2.2.2.2.2.2.2.2.2.2.2.2.2.2.2.2.2.2.2.2.2.2.2.2.2.2.2.2.2.2.2.2.2.2.2.2.2.2.2.2.2.2.2.2.2.2.2.2.2.2.2.2.2.2.2.2.2.2.2.2.2.2.2.2.2.2.2.2.2.2.2.2.2.2.2.2.2.2.2.2.1 pc
theorem s_F_133 (pc : Nat) : s_F pc 133 = pure .i2l := (Classical.choose_spec s_F_ex).2.2.2.2.2.2.2.2.2.2.2.2.2.2.2.2.2.2.2.2.2.2.2.2.2.2.2.2.2.2.2.2.2.2.2.2.2.2.2.2.2.2.2.2.2.2.2.2.2.2.2.2.2.2.2.2.2.2.2.2.2.2.2.2.2.2.2.2.2.2.2.2.2.2.2.2.2.2.2.2.2.2.2.2.2.2.2.1 pc
theorem s_F_135 (pc : Nat) : s_F pc 135 = pure .i2d := (Classical.choose_spec s_F_ex).2.2.2.2.2.2.2.2.2.2.2.2.2.2.2.2.2.2.2.2.2.2.2.2.2.2.2.2.2.2.2.2.2.2.2.2.2.2.2.2.2.2.2.2.2.2.2.2.2.2.2.2.2.2.2.2.2.2.2.2.2.2.2.2.2.2.2.2.2.2.2.2.2.2.2.2.2.2.2.2.2.2.2.2.2.2.2.2.1 pc
theorem s_F_136 (pc : Nat) : s_F pc 136 = pure .l2i := (Classical.choose_spec s_F_ex).2.2.2.2.2.2.2.2.2.2.2.2.2.2.2.2.2.2.2.2.2.2.2.2.2.2.2.2.2.2.2.2.2.2.2.2.2.2.2.2.2.2.2.2.2.2.2.2.2.2.2.2.2.2.2.2.2.2.2.2.2.2.2.2.2.2.2.2.2.2.2.2.2.2.2.2.2.2.2.2.2.2.2.2.2.2.2.2.2.1 pc
theorem s_F_145 (pc : Nat) : s_F pc 145 = pure .i2b := (Classical.choose_spec s_F_ex).2.2.2.2.2.2.2.2.2.2.2.2.2.2.2.2.2.2.2.2.2.2.2.2.2.2.2.2.2.2.2.2.2.2.2.2.2.2.2.2.2.2.2.2.2.2.2.2.2.2.2.2.2.2.2.2.2.2.2.2.2.2.2.2.2.2.2.2.2.2.2.2.2.2.2.2.2.2.2.2.2.2.2.2.2.2.2.2.2.2.1 pc
theorem s_F_147 (pc : Nat) : s_F pc 147 = pure .i2s := (Classical.choose_spec s_F_ex).2.2.2.2.2.2.2.2.2.2.2.2.2.2.2.2.2.2.2.2.2.2.2.2.2.2.2.2.2.2.2.2.2.2.2.2.2.2.2.2.2.2.2.2.2.2.2.2.2.2.2.2.2.2.2.2.2.2.2.2.2.2.2.2.2.2.2.2.2.2.2.2.2.2.2.2.2.2.2.2.2.2.2.2.2.2.2.2.2.2.2.1 pc
theorem s_F_148 (pc : Nat) : s_F pc 148 = pure .lcmp := (Classical.choose_spec s_F_ex).2.2.2.2.2.2.2.2.2.2.2.2.2.2.2.2.2.2.2.2.2.2.2.2.2.2.2.2.2.2.2.2.2.2.2.2.2.2.2.2.2.2.2.2.2.2.2.2.2.2.2.2.2.2.2.2.2.2.2.2.2.2.2.2.2.2.2.2.2.2.2.2.2.2.2.2.2.2.2.2.2.2.2.2.2.2.2.2.2.2.2.2.1 pc
theorem s_F_153 (pc : Nat) : s_F pc 153 = (do pure (.ifCond .eq (← ClassFile.Reader.s2))) := (Classical.choose_spec s_F_ex).2.2.2.2.2.2.2.2.2.2.2.2.2.2.2.2.2.2.2.2.2.2.2.2.2.2.2.2.2.2.2.2.2.2.2.2.2.2.2.2.2.2.2.2.2.2.2.2.2.2.2.2.2.2.2.2.2.2.2.2.2.2.2.2.2.2.2.2.2.2.2.2.2.2.2.2.2.2.2.2.2.2.2.2.2.2.2.2.2.2.2.2.2.1 pc
theorem s_F_154 (pc : Nat) : s_F pc 154 = (do pure (.ifCond .ne (← ClassFile.Reader.s2))) := (Classical.choose_spec s_F_ex).2.2.2.2.2.2.2.2.2.2.2.2.2.2.2.2.2.2.2.2.2.2.2.2.2.2.2.2.2.2.2.2.2.2.2.2.2.2.2.2.2.2.2.2.2.2.2.2.2.2.2.2.2.2.2.2.2.2.2.2.2.2.2.2.2.2.2.2.2.2.2.2.2.2.2.2.2.2.2.2.2.2.2.2.2.2.2.2.2.2.2.2.2.2.1 pc
theorem s_F_155 (pc : Nat) : s_F pc 155 = (do pure (.ifCond .lt (← ClassFile.Reader.s2))) := (Classical.choose_spec s_F_ex).2.2.2.2.2.2.2.2.2.2.2.2.2.2.2.2.2.2.2.2.2.2.2.2.2.2.2.2.2.2.2.2.2.2.2.2.2.2.2.2.2.2.2.2.2.2.2.2.2.2.2.2.2.2.2.2.2.2.2.2.2.2.2.2.2.2.2.2.2.2.2.2.2.2.2.2.2.2.2.2.2.2.2.2.2.2.2.2.2.2.2.2.2.2.2.1 pc
theorem s_F_156 (pc : Nat) : s_F pc 156 = (do pure (.ifCond .ge (← ClassFile.Reader.s2))) := (Classical.choose_spec s_F_ex).2.2.2.2.2.2.2.2.2.2.2.2.2.2.2.2.2.2.2.2.2.2.2.2.2.2.2.2.2.2.2.2.2.2.2.2.2.2.2.2.2.2.2.2.2.2.2.2.2.2.2.2.2.2.2.2.2.2.2.2.2.2.2.2.2.2.2.2.2.2.2.2.2.2.2.2.2.2.2.2.2.2.2.2.2.2.2.2.2.2.2.2.2.2.2.2.1 pc
theorem s_F_157 (pc : Nat) : s_F pc 157 = (do pure (.ifCond .gt (← ClassFile.Reader.s2))) := (Classical.choose_spec s_F_ex).2.2.2.2.2.2.2.2.2.2.2.2.2.2.2.2.2.2.2.2.2.2.2.2.2.2.2.2.2.2.2.2.2.2.2.2.2.2.2.2.2.2.2.2.2.2.2.2.2.2.2.2.2.2.2.2.2.2.2.2.2.2.2.2.2.2.2.2.2.2.2.2.2.2.2.2.2.2.2.2.2.2.2.2.2.2.2.2.2.2.2.2.2.2.2.2.2.1 pc
theorem s_F_158 (pc : Nat) : s_F pc 158 = (do pure (.ifCond .le (← ClassFile.Reader.s2))) := (Classical.choose_spec s_F_ex).2.2.2.2.2.2.2.2.2.2.2.2.2.2.2.2.2.2.2.2.2.2.2.2.2.2.2.2.2.2.2.2.2.2.2.2.2.2.2.2.2.2.2.2.2.2.2.2.2.2.2.2.2.2.2.2.2.2.2.2.2.2.2.2.2.2.2.2.2.2.2.2.2.2.2.2.2.2.2.2.2.2.2.2.2.2.2.2.2.2.2.2.2.2.2.2.2.2.1 pc
theorem s_F_159 (pc : Nat) : s_F pc 159 = (do pure (.if_icmp .eq (← ClassFile.Reader.s2))) := (Classical.choose_spec s_F_ex).2.2.2.2.2.2.2.2.2.2.2.2.2.2.2.2.2.2.2.2.2.2.2.2.2.2.2.2.2.2.2.2.2.2.2.2.2.2.2.2.2.2.2.2.2.2.2.2.2.2.2.2.2.2.2.2.2.2.2.2.2.2.2.2.2.2.2.2.2.2.2.2.2.2.2.2.2.2.2.2.2.2.2.2.2.2.2.2.2.2.2.2.2.2.2.2.2.2.2.1 pc
theorem s_F_160 (pc : Nat) : s_F pc 160 = (do pure (.if_icmp .ne (← ClassFile.Reader.s2))) := (Classical.choose_spec s_F_ex).2.2.2.2.2.2.2.2.2.2.2.2.2.2.2.2.2.2.2.2.2.2.2.2.2.2.2.2.2.2.2.2.2.2.2.2.2.2.2.2.2.2.2.2.2.2.2.2.2.2.2.2.2.2.2.2.2.2.2.2.2.2.2.2.2.2.2.2.2.2.2.2.2.2.2.2.2.2.2.2.2.2.2.2.2.2.2.2.2.2.2.2.2.2.2.2.2.2.2.2.1 pc
theorem s_F_161 (pc : Nat) : s_F pc 161 = (do pure (.if_icmp .lt (← ClassFile.Reader.s2))) := (Classical.choose_spec s_F_ex).2.2.2.2.2.2.2.2.2.2.2.2.2.2.2.2.2.2.2.2.2.2.2.2.2.2.2.2.2.2.2.2.2.2.2.2.2.2.2.2.2.2.2.2.2.2.2.2.2.2.2.2.2.2.2.2.2.2.2.2.2.2.2.2.2.2.2.2.2.2.2.2.2.2.2.2.2.2.2.2.2.2.2.2.2.2.2.2.2.2.2.2.2.2.2.2.2.2.2.2.2.1 pc
theorem s_F_162 (pc : Nat) : s_F pc 162 = (do pure (.if_icmp .ge (← ClassFile.Reader.s2))) := (Classical.choose_spec s_F_ex).2.2.2.2.2.2.2.2.2.2.2.2.2.2.2.2.2.2.2.2.2.2.2.2.2.2.2.2.2.2.2.2.2.2.2.2.2.2.2.2.2.2.2.2.2.2.2.2.2.2.2.2.2.2.2.2.2.2.2.2.2.2.2.2.2.2.2.2.2.2.2.2.2.2.2.2.2.2.2.2.2.2.2.2.2.2.2.2.2.2.2.2.2.2.2.2.2.2.2.2.2.2.1 pc
theorem s_F_163 (pc : Nat) : s_F pc 163 = (do pure (.if_icmp .gt (← ClassFile.Reader.s2))) := (Classical.choose_spec s_F_ex).2.2.2.2.2.2.2.2.2.2.2.2.2.2.2.2.2.2.2.2.2.2.2.2.2.2.2.2.2.2.2.2.2.2.2.2.2.2.2.2.2.2.2.2.2.2.2.2.2.2.2.2.2.2.2.2.2.2.2.2.2.2.2.2.2.2.2.2.2.2.2.2.2.2.2.2.2.2.2.2.2.2.2.2.2.2.2.2.2.2.2.2.2.2.2.2.2.2.2.2.2.2.2.1 pc
theorem s_F_164 (pc : Nat) : s_F pc 164 = (do pure (.if_icmp .le (← ClassFile.Reader.s2))) := (Classical.choose_spec s_F_ex).2.2.2.2.2.2.2.2.2.2.2.2.2.2.2.2.2.2.2.2.2.2.2.2.2.2.2.2.2.2.2.2.2.2.2.2.2.2.2.2.2.2.2.2.2.2.2.2.2.2.2.2.2.2.2.2.2.2.2.2.2.2.2.2.2.2.2.2.2.2.2.2.2.2.2.2.2.2.2.2.2.2.2.2.2.2.2.2.2.2.2.2.2.2.2.2.2.2.2.2.2.2.2.2.1 pc
theorem s_F_167 (pc : Nat) : s_F pc 167 = (do pure (.goto (← ClassFile.Reader.s2))) := (Classical.choose_spec s_F_ex).2.2.2.2.2.2.2.2.2.2.2.2.2.2.2.2.2.2.2.2.2.2.2.2.2.2.2.2.2.2.2.2.2.2.2.2.2.2.2.2.2.2.2.2.2.2.2.2.2.2.2.2.2.2.2.2.2.2.2.2.2.2.2.2.2.2.2.2.2.2.2.2.2.2.2.2.2.2.2.2.2.2.2.2.2.2.2.2.2.2.2.2.2.2.2.2.2.2.2.2.2.2.2.2.2.1 pc
theorem s_F_172 (pc : Nat) : s_F pc 172 = pure .ireturn := (Classical.choose_spec s_F_ex).2.2.2.2.2.2.2.2.2.2.2.2.2.2.2.2.2.2.2.2.2.2.2.2.2.2.2.2.2.2.2.2.2.2.2.2.2.2.2.2.2.2.2.2.2.2.2.2.2.2.2.2.2.2.2.2.2.2.2.2.2.2.2.2.2.2.2.2.2.2.2.2.2.2.2.2.2.2.2.2.2.2.2.2.2.2.2.2.2.2.2.2.2.2.2.2.2.2.2.2.2.2.2.2.2.2.1 pc
theorem s_F_173 (pc : Nat) : s_F pc 173 = pure .lreturn := (Classical.choose_spec s_F_ex).2.2.2.2.2.2.2.2.2.2.2.2.2.2.2.2.2.2.2.2.2.2.2.2.2.2.2.2.2.2.2.2.2.2.2.2.2.2.2.2.2.2.2.2.2.2.2.2.2.2.2.2.2.2.2.2.2.2.2.2.2.2.2.2.2.2.2.2.2.2.2.2.2.2.2.2.2.2.2.2.2.2.2.2.2.2.2.2.2.2.2.2.2.2.2.2.2.2.2.2.2.2.2.2.2.2.2.1 pc
theorem s_F_176 (pc : Nat) : s_F pc 176 = pure .areturn := (Classical.choose_spec s_F_ex).2.2.2.2.2.2.2.2.2.2.2.2.2.2.2.2.2.2.2.2.2.2.2.2.2.2.2.2.2.2.2.2.2.2.2.2.2.2.2.2.2.2.2.2.2.2.2.2.2.2.2.2.2.2.2.2.2.2.2.2.2.2.2.2.2.2.2.2.2.2.2.2.2.2.2.2.2.2.2.2.2.2.2.2.2.2.2.2.2.2.2.2.2.2.2.2.2.2.2.2.2.2.2.2.2.2.2.2.1 pc
theorem s_F_177 (pc : Nat) : s_F pc 177 = pure .return_ := (Classical.choose_spec s_F_ex).2.2.2.2.2.2.2.2.2.2.2.2.2.2.2.2.2.2.2.2.2.2.2.2.2.2.2.2.2.2.2.2.2.2.2.2.2.2.2.2.2.2.2.2.2.2.2.2.2.2.2.2.2.2.2.2.2.2.2.2.2.2.2.2.2.2.2.2.2.2.2.2.2.2.2.2.2.2.2.2.2.2.2.2.2.2.2.2.2.2.2.2.2.2.2.2.2.2.2.2.2.2.2.2.2.2.2.2.2.1 pc
theorem s_F_180 (pc : Nat) : s_F pc 180 = (do pure (.getfield (← ClassFile.Reader.u2))) := (Classical.choose_spec s_F_ex).2.2.2.2.2.2.2.2.2.2.2.2.2.2.2.2.2.2.2.2.2.2.2.2.2.2.2.2.2.2.2.2.2.2.2.2.2.2.2.2.2.2.2.2.2.2.2.2.2.2.2.2.2.2.2.2.2.2.2.2.2.2.2.2.2.2.2.2.2.2.2.2.2.2.2.2.2.2.2.2.2.2.2.2.2.2.2.2.2.2.2.2.2.2.2.2.2.2.2.2.2.2.2.2.2.2.2.2.2.2.1 pc
theorem s_F_181 (pc : Nat) : s_F pc 181 = (do pure (.putfield (← ClassFile.Reader.u2))) := (Classical.choose_spec s_F_ex).2.2.2.2.2.2.2.2.2.2.2.2.2.2.2.2.2.2.2.2.2.2.2.2.2.2.2.2.2.2.2.2.2.2.2.2.2.2.2.2.2.2.2.2.2.2.2.2.2.2.2.2.2.2.2.2.2.2.2.2.2.2.2.2.2.2.2.2.2.2.2.2.2.2.2.2.2.2.2.2.2.2.2.2.2.2.2.2.2.2.2.2.2.2.2.2.2.2.2.2.2.2.2.2.2.2.2.2.2.2.2.1 pc
theorem s_F_182 (pc : Nat) : s_F pc 182 = (do pure (.invokevirtual (← ClassFile.Reader.u2))) := (Classical.choose_spec s_F_ex).2.2.2.2.2.2.2.2.2.2.2.2.2.2.2.2.2.2.2.2.2.2.2.2.2.2.2.2.2.2.2.2.2.2.2.2.2.2.2.2.2.2.2.2.2.2.2.2.2.2.2.2.2.2.2.2.2.2.2.2.2.2.2.2.2.2.2.2.2.2.2.2.2.2.2.2.2.2.2.2.2.2.2.2.2.2.2.2.2.2.2.2.2.2.2.2.2.2.2.2.2.2.2.2.2.2.2.2.2.2.2.2.1 pc
theorem s_F_183 (pc : Nat) : s_F pc 183 = (do pure (.invokespecial (← ClassFile.Reader.u2))) := (Classical.choose_spec s_F_ex).2.2.2.2.2.2.2.2.2.2.2.2.2.2.2.2.2.2.2.2.2.2.2.2.2.2.2.2.2.2.2.2.2.2.2.2.2.2.2.2.2.2.2.2.2.2.2.2.2.2.2.2.2.2.2.2.2.2.2.2.2.2.2.2.2.2.2.2.2.2.2.2.2.2.2.2.2.2.2.2.2.2.2.2.2.2.2.2.2.2.2.2.2.2.2.2.2.2.2.2.2.2.2.2.2.2.2.2.2.2.2.2.2.1 pc
theorem s_F_184 (pc : Nat) : s_F pc 184 = (do pure (.invokestatic (← ClassFile.Reader.u2))) := (Classical.choose_spec s_F_ex).2.2.2.2.2.2.2.2.2.2.2.2.2.2.2.2.2.2.2.2.2.2.2.2.2.2.2.2.2.2.2.2.2.2.2.2.2.2.2.2.2.2.2.2.2.2.2.2.2.2.2.2.2.2.2.2.2.2.2.2.2.2.2.2.2.2.2.2.2.2.2.2.2.2.2.2.2.2.2.2.2.2.2.2.2.2.2.2.2.2.2.2.2.2.2.2.2.2.2.2.2.2.2.2.2.2.2.2.2.2.2.2.2.2.1 pc
theorem s_F_187 (pc : Nat) : s_F pc 187 = (do pure (.new (← ClassFile.Reader.u2))) := (Classical.choose_spec s_F_ex).2.2.2.2.2.2.2.2.2.2.2.2.2.2.2.2.2.2.2.2.2.2.2.2.2.2.2.2.2.2.2.2.2.2.2.2.2.2.2.2.2.2.2.2.2.2.2.2.2.2.2.2.2.2.2.2.2.2.2.2.2.2.2.2.2.2.2.2.2.2.2.2.2.2.2.2.2.2.2.2.2.2.2.2.2.2.2.2.2.2.2.2.2.2.2.2.2.2.2.2.2.2.2.2.2.2.2.2.2.2.2.2.2.2.2.1 pc
theorem s_F_189 (pc : Nat) : s_F pc 189 = (do pure (.anewarray (← ClassFile.Reader.u2))) := (Classical.choose_spec s_F_ex).2.2.2.2.2.2.2.2.2.2.2.2.2.2.2.2.2.2.2.2.2.2.2.2.2.2.2.2.2.2.2.2.2.2.2.2.2.2.2.2.2.2.2.2.2.2.2.2.2.2.2.2.2.2.2.2.2.2.2.2.2.2.2.2.2.2.2.2.2.2.2.2.2.2.2.2.2.2.2.2.2.2.2.2.2.2.2.2.2.2.2.2.2.2.2.2.2.2.2.2.2.2.2.2.2.2.2.2.2.2.2.2.2.2.2.2.1 pc
theorem s_F_190 (pc : Nat) : s_F pc 190 = pure .arraylength := (Classical.choose_spec s_F_ex).2.2.2.2.2.2.2.2.2.2.2.2.2.2.2.2.2.2.2.2.2.2.2.2.2.2.2.2.2.2.2.2.2.2.2.2.2.2.2.2.2.2.2.2.2.2.2.2.2.2.2.2.2.2.2.2.2.2.2.2.2.2.2.2.2.2.2.2.2.2.2.2.2.2.2.2.2.2.2.2.2.2.2.2.2.2.2.2.2.2.2.2.2.2.2.2.2.2.2.2.2.2.2.2.2.2.2.2.2.2.2.2.2.2.2.2.2.1 pc
theorem s_F_191 (pc : Nat) : s_F pc 191 = pure .athrow := (Classical.choose_spec s_F_ex).2.2.2.2.2.2.2.2.2.2.2.2.2.2.2.2.2.2.2.2.2.2.2.2.2.2.2.2.2.2.2.2.2.2.2.2.2.2.2.2.2.2.2.2.2.2.2.2.2.2.2.2.2.2.2.2.2.2.2.2.2.2.2.2.2.2.2.2.2.2.2.2.2.2.2.2.2.2.2.2.2.2.2.2.2.2.2.2.2.2.2.2.2.2.2.2.2.2.2.2.2.2.2.2.2.2.2.2.2.2.2.2.2.2.2.2.2.2.1 pc
theorem s_F_198 (pc : Nat) : s_F pc 198 = (do pure (.ifnull (← ClassFile.Reader.s2))) := (Classical.choose_spec s_F_ex).2.2.2.2.2.2.2.2.2.2.2.2.2.2.2.2.2.2.2.2.2.2.2.2.2.2.2.2.2.2.2.2.2.2.2.2.2.2.2.2.2.2.2.2.2.2.2.2.2.2.2.2.2.2.2.2.2.2.2.2.2.2.2.2.2.2.2.2.2.2.2.2.2.2.2.2.2.2.2.2.2.2.2.2.2.2.2.2.2.2.2.2.2.2.2.2.2.2.2.2.2.2.2.2.2.2.2.2.2.2.2.2.2.2.2.2.2.2.2.1 pc
theorem s_F_199 (pc : Nat) : s_F pc 199 = (do pure (.ifnonnull (← ClassFile.Reader.s2))) := (Classical.choose_spec s_F_ex).2.2.2.2.2.2.2.2.2.2.2.2.2.2.2.2.2.2.2.2.2.2.2.2.2.2.2.2.2.2.2.2.2.2.2.2.2.2.2.2.2.2.2.2.2.2.2.2.2.2.2.2.2.2.2.2.2.2.2.2.2.2.2.2.2.2.2.2.2.2.2.2.2.2.2.2.2.2.2.2.2.2.2.2.2.2.2.2.2.2.2.2.2.2.2.2.2.2.2.2.2.2.2.2.2.2.2.2.2.2.2.2.2.2.2.2.2.2.2.2 pc
theorem s_dc {cc : ByteArray} {pc : Nat} {b : UInt8} {t : List UInt8} (h : cc.data.toList.drop pc = b :: t) {k : Nat} (hk : b.toNat = k) {i : Instr} {nx : Nat} (hF : s_F pc k cc (pc + 1) = .ok (i, nx)) : decode cc pc = .ok (i, nx - pc) := by
  subst hk
  have h1 : ClassFile.Decoder.instr pc cc pc = .ok (i, nx) := by
    rw [s_F_in pc]
    show (match (ClassFile.Reader.u1 : ClassFile.Decoder Nat) cc pc with | .error e => .error e | .ok (n, s) => s_F pc n cc s) = _
    rw [s_rd h]
    exact hF
  show (match ClassFile.Decoder.instr pc cc pc with | .error e => .error e | .ok (i, nx) => .ok (i, nx - pc)) = _
  rw [h1]
theorem s_r2 {cc : ByteArray} {p : Nat} {b c : UInt8} {t : List UInt8} (h : cc.data.toList.drop p = b :: c :: t) : (ClassFile.Reader.u2 : ClassFile.Decoder Nat) cc p = .ok (b.toNat * 256 + c.toNat, p + 2) := by
  show (match (ClassFile.Reader.u1 : ClassFile.Decoder Nat) cc p with | .error e => .error e | .ok (n, s) => (match (ClassFile.Reader.u1 : ClassFile.Decoder Nat) cc s with | .error e => .error e | .ok (m, s) => .ok (n * 256 + m, s))) = _
  rw [s_rd h]
  show (match (ClassFile.Reader.u1 : ClassFile.Decoder Nat) cc (p + 1) with | .error e => .error e | .ok (m, s) => .ok (b.toNat * 256 + m, s)) = _
  rw [s_rd (s_dn h)]
def s_n0 (bs : List UInt8) (k : Nat) : Option Nat := match bs with
  | b :: _ => bif Nat.beq b.toNat k then some 1 else none
  | [] => none
def s_n1 (bs : List UInt8) (k i : Nat) : Option Nat := match bs with
  | b :: c :: _ => bif Nat.beq b.toNat k && Nat.beq c.toNat i then some 2 else none
  | _ => none
def s_n2 (bs : List UInt8) (k i : Nat) : Option Nat := match bs with
  | b :: c :: d :: _ => bif Nat.beq b.toNat k && Nat.beq (c.toNat * 256 + d.toNat) i then some 3 else none
  | _ => none
def s_m1 (bs : List UInt8) (k : Nat) (v : Int) : Option Nat := match bs with
  | b :: c :: _ => bif Nat.beq b.toNat k && decide (ClassFile.Reader.signed 8 c.toNat = v) then some 2 else none
  | _ => none
def s_m2 (bs : List UInt8) (k : Nat) (v : Int) : Option Nat := match bs with
  | b :: c :: d :: _ => bif Nat.beq b.toNat k && decide (ClassFile.Reader.signed 16 (c.toNat * 256 + d.toNat) = v) then some 3 else none
  | _ => none
def s_mi3 (bs : List UInt8) (k i : Nat) (v : Int) : Option Nat := match bs with
  | b :: c :: d :: _ => bif Nat.beq b.toNat k && (Nat.beq c.toNat i && decide (ClassFile.Reader.signed 8 d.toNat = v)) then some 3 else none
  | _ => none
theorem s_bs {b : Bool} {x n : Nat} (h : (bif b then some x else none) = some n) : b = true ∧ n = x := by
  cases b
  · cases h
  · cases h
    exact ⟨rfl, rfl⟩
section F9
variable {cc : ByteArray} {pc n k : Nat} {bs : List UInt8}
theorem s_e0 {ins : Instr} (hF : ∀ pc, s_F pc k = pure ins) (h : s_n0 bs k = some n) (hd : cc.data.toList.drop pc = bs) : decode cc pc = .ok (ins, n) := by
  unfold s_n0 at h
  split at h
  next b t =>
    obtain ⟨h1, rfl⟩ := s_bs h
    have := s_dc hd (Nat.eq_of_beq_eq_true h1) (i := ins) (nx := pc + 1) (by rw [hF]; rfl)
    rw [this, Nat.add_sub_cancel_left]
  next => cases h
theorem s_e1 {c : Nat → Instr} {i : Nat} (hF : ∀ pc, s_F pc k = (do pure (c (← ClassFile.Reader.u1)))) (h : s_n1 bs k i = some n) (hd : cc.data.toList.drop pc = bs) : decode cc pc = .ok (c i, n) := by
  unfold s_n1 at h
  split at h
  next b b2 t =>
    obtain ⟨h1, rfl⟩ := s_bs h
    rw [Bool.and_eq_true] at h1
    have h2 := Nat.eq_of_beq_eq_true h1.2
    have := s_dc hd (Nat.eq_of_beq_eq_true h1.1) (i := c i) (nx := pc + 2) (by
      rw [hF]
      show (match (ClassFile.Reader.u1 : ClassFile.Decoder Nat) cc (pc + 1) with | .error e => .error e | .ok (n, s) => .ok (c n, s)) = _
      rw [s_rd (s_dn hd), ← h2])
    rw [this, Nat.add_sub_cancel_left]
  next => cases h
theorem s_e2 {c : Nat → Instr} {i : Nat} (hF : ∀ pc, s_F pc k = (do pure (c (← ClassFile.Reader.u2)))) (h : s_n2 bs k i = some n) (hd : cc.data.toList.drop pc = bs) : decode cc pc = .ok (c i, n) := by
  unfold s_n2 at h
  split at h
  next b b2 b3 t =>
    obtain ⟨h1, rfl⟩ := s_bs h
    rw [Bool.and_eq_true] at h1
    have h2 := Nat.eq_of_beq_eq_true h1.2
    have := s_dc hd (Nat.eq_of_beq_eq_true h1.1) (i := c i) (nx := pc + 3) (by
      rw [hF]
      show (match (ClassFile.Reader.u2 : ClassFile.Decoder Nat) cc (pc + 1) with | .error e => .error e | .ok (n, s) => .ok (c n, s)) = _
      rw [s_r2 (s_dn hd), ← h2])
    rw [this, Nat.add_sub_cancel_left]
  next => cases h
theorem s_f1 {c : Int → Instr} {v : Int} (hF : ∀ pc, s_F pc k = (do pure (c (← ClassFile.Reader.s1)))) (h : s_m1 bs k v = some n) (hd : cc.data.toList.drop pc = bs) : decode cc pc = .ok (c v, n) := by
  unfold s_m1 at h
  split at h
  next b b2 t =>
    obtain ⟨h1, rfl⟩ := s_bs h
    rw [Bool.and_eq_true, decide_eq_true_eq] at h1
    have := s_dc hd (Nat.eq_of_beq_eq_true h1.1) (i := c v) (nx := pc + 2) (by
      rw [hF]
      show (match (ClassFile.Reader.u1 : ClassFile.Decoder Nat) cc (pc + 1) with | .error e => .error e | .ok (n, s) => .ok (c (ClassFile.Reader.signed 8 n), s)) = _
      rw [s_rd (s_dn hd), ← h1.2])
    rw [this, Nat.add_sub_cancel_left]
  next => cases h
theorem s_f2 {c : Int → Instr} {v : Int} (hF : ∀ pc, s_F pc k = (do pure (c (← ClassFile.Reader.s2)))) (h : s_m2 bs k v = some n) (hd : cc.data.toList.drop pc = bs) : decode cc pc = .ok (c v, n) := by
  unfold s_m2 at h
  split at h
  next b b2 b3 t =>
    obtain ⟨h1, rfl⟩ := s_bs h
    rw [Bool.and_eq_true, decide_eq_true_eq] at h1
    have := s_dc hd (Nat.eq_of_beq_eq_true h1.1) (i := c v) (nx := pc + 3) (by
      rw [hF]
      show (match (ClassFile.Reader.u2 : ClassFile.Decoder Nat) cc (pc + 1) with | .error e => .error e | .ok (n, s) => .ok (c (ClassFile.Reader.signed 16 n), s)) = _
      rw [s_r2 (s_dn hd), ← h1.2])
    rw [this, Nat.add_sub_cancel_left]
  next => cases h
theorem s_fi3 {i : Nat} {v : Int} (h : s_mi3 bs 132 i v = some n) (hd : cc.data.toList.drop pc = bs) : decode cc pc = .ok (.iinc i v, n) := by
  unfold s_mi3 at h
  split at h
  next b b2 b3 t =>
    obtain ⟨h1, rfl⟩ := s_bs h
    rw [Bool.and_eq_true, Bool.and_eq_true, decide_eq_true_eq] at h1
    have h2 := Nat.eq_of_beq_eq_true h1.2.1
    have := s_dc hd (Nat.eq_of_beq_eq_true h1.1) (i := .iinc i v) (nx := pc + 3) (by
      rw [s_F_132]
      show (match (ClassFile.Reader.u1 : ClassFile.Decoder Nat) cc (pc + 1) with | .error e => .error e | .ok (n, s) => (match (ClassFile.Reader.u1 : ClassFile.Decoder Nat) cc s with | .error e => .error e | .ok (m, s) => .ok (Instr.iinc n (ClassFile.Reader.signed 8 m), s))) = _
      rw [s_rd (s_dn hd)]
      show (match (ClassFile.Reader.u1 : ClassFile.Decoder Nat) cc (pc + 1 + 1) with | .error e => .error e | .ok (m, s) => .ok (Instr.iinc b2.toNat (ClassFile.Reader.signed 8 m), s)) = _
      rw [s_rd (s_dn (s_dn hd)), ← h1.2.2, ← h2])
    rw [this, Nat.add_sub_cancel_left]
  next => cases h
end F9
def s_enc (bs : List UInt8) : Instr → Option Nat
  | .aaload => s_n0 bs 50
  | .aastore => s_n0 bs 83
  | .aconst_null => s_n0 bs 1
  | .areturn => s_n0 bs 176
  | .arraylength => s_n0 bs 190
  | .athrow => s_n0 bs 191
  | .baload => s_n0 bs 51
  | .bastore => s_n0 bs 84
  | .ddiv => s_n0 bs 111
  | .dmul => s_n0 bs 107
  | .dup => s_n0 bs 89
  | .dup_x1 => s_n0 bs 90
  | .dup2 => s_n0 bs 92
  | .i2b => s_n0 bs 145
  | .i2d => s_n0 bs 135
  | .i2l => s_n0 bs 133
  | .i2s => s_n0 bs 147
  | .iadd => s_n0 bs 96
  | .iaload => s_n0 bs 46
  | .iand => s_n0 bs 126
  | .iastore => s_n0 bs 79
  | .idiv => s_n0 bs 108
  | .imul => s_n0 bs 104
  | .ineg => s_n0 bs 116
  | .ior => s_n0 bs 128
  | .irem => s_n0 bs 112
  | .ireturn => s_n0 bs 172
  | .ishl => s_n0 bs 120
  | .ishr => s_n0 bs 122
  | .isub => s_n0 bs 100
  | .iushr => s_n0 bs 124
  | .ixor => s_n0 bs 130
  | .l2i => s_n0 bs 136
  | .ladd => s_n0 bs 97
  | .laload => s_n0 bs 47
  | .lastore => s_n0 bs 80
  | .lcmp => s_n0 bs 148
  | .ldiv => s_n0 bs 109
  | .lmul => s_n0 bs 105
  | .lneg => s_n0 bs 117
  | .lrem => s_n0 bs 113
  | .lreturn => s_n0 bs 173
  | .lsub => s_n0 bs 101
  | .pop => s_n0 bs 87
  | .return_ => s_n0 bs 177
  | .iconst v => bif decide (-1 ≤ v) && decide (v ≤ 5) then s_n0 bs (v + 3).toNat else none
  | .lconst v => s_n0 bs (9 + v.val)
  | .aload_n v => s_n0 bs (42 + v.val)
  | .astore_n v => s_n0 bs (75 + v.val)
  | .dload_n v => s_n0 bs (38 + v.val)
  | .dstore_n v => s_n0 bs (71 + v.val)
  | .iload_n v => s_n0 bs (26 + v.val)
  | .istore_n v => s_n0 bs (59 + v.val)
  | .lload_n v => s_n0 bs (30 + v.val)
  | .lstore_n v => s_n0 bs (63 + v.val)
  | .aload i => s_n1 bs 25 i
  | .astore i => s_n1 bs 58 i
  | .iload i => s_n1 bs 21 i
  | .istore i => s_n1 bs 54 i
  | .lload i => s_n1 bs 22 i
  | .lstore i => s_n1 bs 55 i
  | .ldc i => s_n1 bs 18 i
  | .anewarray i => s_n2 bs 189 i
  | .getfield i => s_n2 bs 180 i
  | .putfield i => s_n2 bs 181 i
  | .invokespecial i => s_n2 bs 183 i
  | .invokestatic i => s_n2 bs 184 i
  | .invokevirtual i => s_n2 bs 182 i
  | .ldc_w i => s_n2 bs 19 i
  | .ldc2_w i => s_n2 bs 20 i
  | .new i => s_n2 bs 187 i
  | .bipush i => s_m1 bs 16 i
  | .sipush i => s_m2 bs 17 i
  | .goto i => s_m2 bs 167 i
  | .ifnonnull i => s_m2 bs 199 i
  | .ifnull i => s_m2 bs 198 i
  | .ifCond c v => s_m2 bs (153 + s_cdn c) v
  | .if_icmp c v => s_m2 bs (159 + s_cdn c) v
  | .iinc i v => s_mi3 bs 132 i v
  | _ => none
theorem s_enc_ok {cc : ByteArray} {pc n : Nat} {bs : List UInt8} {ins : Instr} (h : s_enc bs ins = some n) (hd : cc.data.toList.drop pc = bs) : decode cc pc = .ok (ins, n) := by
  cases ins
  case aaload => exact s_e0 s_F_50 h hd
  case aastore => exact s_e0 s_F_83 h hd
  case aconst_null => exact s_e0 s_F_1 h hd
  case areturn => exact s_e0 s_F_176 h hd
  case arraylength => exact s_e0 s_F_190 h hd
  case athrow => exact s_e0 s_F_191 h hd
  case baload => exact s_e0 s_F_51 h hd
  case bastore => exact s_e0 s_F_84 h hd
  case ddiv => exact s_e0 s_F_111 h hd
  case dmul => exact s_e0 s_F_107 h hd
  case dup => exact s_e0 s_F_89 h hd
  case dup_x1 => exact s_e0 s_F_90 h hd
  case dup2 => exact s_e0 s_F_92 h hd
  case i2b => exact s_e0 s_F_145 h hd
  case i2d => exact s_e0 s_F_135 h hd
  case i2l => exact s_e0 s_F_133 h hd
  case i2s => exact s_e0 s_F_147 h hd
  case iadd => exact s_e0 s_F_96 h hd
  case iaload => exact s_e0 s_F_46 h hd
  case iand => exact s_e0 s_F_126 h hd
  case iastore => exact s_e0 s_F_79 h hd
  case idiv => exact s_e0 s_F_108 h hd
  case imul => exact s_e0 s_F_104 h hd
  case ineg => exact s_e0 s_F_116 h hd
  case ior => exact s_e0 s_F_128 h hd
  case irem => exact s_e0 s_F_112 h hd
  case ireturn => exact s_e0 s_F_172 h hd
  case ishl => exact s_e0 s_F_120 h hd
  case ishr => exact s_e0 s_F_122 h hd
  case isub => exact s_e0 s_F_100 h hd
  case iushr => exact s_e0 s_F_124 h hd
  case ixor => exact s_e0 s_F_130 h hd
  case l2i => exact s_e0 s_F_136 h hd
  case ladd => exact s_e0 s_F_97 h hd
  case laload => exact s_e0 s_F_47 h hd
  case lastore => exact s_e0 s_F_80 h hd
  case lcmp => exact s_e0 s_F_148 h hd
  case ldiv => exact s_e0 s_F_109 h hd
  case lmul => exact s_e0 s_F_105 h hd
  case lneg => exact s_e0 s_F_117 h hd
  case lrem => exact s_e0 s_F_113 h hd
  case lreturn => exact s_e0 s_F_173 h hd
  case lsub => exact s_e0 s_F_101 h hd
  case pop => exact s_e0 s_F_87 h hd
  case return_ => exact s_e0 s_F_177 h hd
  case iconst v =>
    have h : (bif decide (-1 ≤ v) && decide (v ≤ 5) then s_n0 bs (v + 3).toNat else none) = some n := h
    cases e : (decide (-1 ≤ v) && decide (v ≤ 5))
    · rw [e] at h
      cases h
    · rw [e] at h
      rw [Bool.and_eq_true, decide_eq_true_eq, decide_eq_true_eq] at e
      obtain rfl | rfl | rfl | rfl | rfl | rfl | rfl : v = -1 ∨ v = 0 ∨ v = 1 ∨ v = 2 ∨ v = 3 ∨ v = 4 ∨ v = 5 := by omega
      · exact s_e0 s_F_2 h hd
      · exact s_e0 s_F_3 h hd
      · exact s_e0 s_F_4 h hd
      · exact s_e0 s_F_5 h hd
      · exact s_e0 s_F_6 h hd
      · exact s_e0 s_F_7 h hd
      · exact s_e0 s_F_8 h hd
  case lconst v =>
    obtain ⟨_ | _ | v, hv⟩ := v
    · exact s_e0 s_F_9 h hd
    · exact s_e0 s_F_10 h hd
    · omega
  case aload_n v =>
    obtain ⟨_ | _ | _ | _ | v, hv⟩ := v
    · exact s_e0 s_F_42 h hd
    · exact s_e0 s_F_43 h hd
    · exact s_e0 s_F_44 h hd
    · exact s_e0 s_F_45 h hd
    · omega
  case astore_n v =>
    obtain ⟨_ | _ | _ | _ | v, hv⟩ := v
    · exact s_e0 s_F_75 h hd
    · exact s_e0 s_F_76 h hd
    · exact s_e0 s_F_77 h hd
    · exact s_e0 s_F_78 h hd
    · omega
  case dload_n v =>
    obtain ⟨_ | _ | _ | _ | v, hv⟩ := v
    · exact s_e0 s_F_38 h hd
    · exact s_e0 s_F_39 h hd
    · exact s_e0 s_F_40 h hd
    · exact s_e0 s_F_41 h hd
    · omega
  case dstore_n v =>
    obtain ⟨_ | _ | _ | _ | v, hv⟩ := v
    · exact s_e0 s_F_71 h hd
    · exact s_e0 s_F_72 h hd
    · exact s_e0 s_F_73 h hd
    · exact s_e0 s_F_74 h hd
    · omega
  case iload_n v =>
    obtain ⟨_ | _ | _ | _ | v, hv⟩ := v
    · exact s_e0 s_F_26 h hd
    · exact s_e0 s_F_27 h hd
    · exact s_e0 s_F_28 h hd
    · exact s_e0 s_F_29 h hd
    · omega
  case istore_n v =>
    obtain ⟨_ | _ | _ | _ | v, hv⟩ := v
    · exact s_e0 s_F_59 h hd
    · exact s_e0 s_F_60 h hd
    · exact s_e0 s_F_61 h hd
    · exact s_e0 s_F_62 h hd
    · omega
  case lload_n v =>
    obtain ⟨_ | _ | _ | _ | v, hv⟩ := v
    · exact s_e0 s_F_30 h hd
    · exact s_e0 s_F_31 h hd
    · exact s_e0 s_F_32 h hd
    · exact s_e0 s_F_33 h hd
    · omega
  case lstore_n v =>
    obtain ⟨_ | _ | _ | _ | v, hv⟩ := v
    · exact s_e0 s_F_63 h hd
    · exact s_e0 s_F_64 h hd
    · exact s_e0 s_F_65 h hd
    · exact s_e0 s_F_66 h hd
    · omega
  case aload i => exact s_e1 s_F_25 h hd
  case astore i => exact s_e1 s_F_58 h hd
  case iload i => exact s_e1 s_F_21 h hd
  case istore i => exact s_e1 s_F_54 h hd
  case lload i => exact s_e1 s_F_22 h hd
  case lstore i => exact s_e1 s_F_55 h hd
  case ldc i => exact s_e1 s_F_18 h hd
  case anewarray i => exact s_e2 s_F_189 h hd
  case getfield i => exact s_e2 s_F_180 h hd
  case putfield i => exact s_e2 s_F_181 h hd
  case invokespecial i => exact s_e2 s_F_183 h hd
  case invokestatic i => exact s_e2 s_F_184 h hd
  case invokevirtual i => exact s_e2 s_F_182 h hd
  case ldc_w i => exact s_e2 s_F_19 h hd
  case ldc2_w i => exact s_e2 s_F_20 h hd
  case new i => exact s_e2 s_F_187 h hd
  case bipush i => exact s_f1 s_F_16 h hd
  case sipush i => exact s_f2 s_F_17 h hd
  case goto i => exact s_f2 s_F_167 h hd
  case ifnonnull i => exact s_f2 s_F_199 h hd
  case ifnull i => exact s_f2 s_F_198 h hd
  case ifCond c v =>
    cases c
    · exact s_f2 s_F_153 h hd
    · exact s_f2 s_F_154 h hd
    · exact s_f2 s_F_155 h hd
    · exact s_f2 s_F_156 h hd
    · exact s_f2 s_F_157 h hd
    · exact s_f2 s_F_158 h hd
  case if_icmp c v =>
    cases c
    · exact s_f2 s_F_159 h hd
    · exact s_f2 s_F_160 h hd
    · exact s_f2 s_F_161 h hd
    · exact s_f2 s_F_162 h hd
    · exact s_f2 s_F_163 h hd
    · exact s_f2 s_F_164 h hd
  case iinc i v => exact s_fi3 h hd
  all_goals cases h
-- the pool entries of a class
def s_pl (o : Nat) : List g_LK := g_lk.filter (fun q => Nat.beq q.1 o)
def s_pq (o : Nat) (pl : List g_LK) (r : s_I) : Bool := match s_pool r.2.2.2.2.2.2.2 with
  | none => true
  | some i => Nat.ble 40 r.2.2.1 || pl.any (fun q => Nat.beq q.2.1 i && (Nat.beq q.1 o && (Nat.beq q.2.2.1 r.2.2.2.1 && (Nat.beq q.2.2.2.1 r.2.2.2.2.1 && (Nat.beq q.2.2.2.2.1 r.2.2.2.2.2.1 && decide (q.2.2.2.2.2.1 = r.2.2.2.2.2.2.1))))))
def s_fq (cc : ByteArray) (o : Nat) (pl : List g_LK) (bs : List UInt8) (r : s_I) : Bool := ((match s_enc bs r.2.2.2.2.2.2.2 with
  | some n => Nat.beq n r.2.1 && (Nat.beq (s_len r.2.2.2.2.2.2.2) n || (Nat.beq r.2.2.1 25 || Nat.ble 44 r.2.2.1))
  | none => false) && (s_okQ r.1 r.2.2.1 r.2.2.2.2.1 r.2.2.2.2.2.1 r.2.2.2.2.2.2.1 r.2.2.2.2.2.2.2 && s_pq o pl r)) || s_okI cc o r
theorem s_fq_ok {cc : ByteArray} {o : Nat} {pl : List g_LK} {bs : List UInt8} {r : s_I} (h : s_fq cc o pl bs r = true) (hd : cc.data.toList.drop r.1 = bs) (hp : ∀ q ∈ pl, q ∈ g_lk) : s_okI cc o r = true := by
  unfold s_fq at h
  rw [Bool.or_eq_true] at h
  rcases h with h | h
  · rw [Bool.and_eq_true, Bool.and_eq_true] at h
    obtain ⟨h1, h2, h3⟩ := h
    split at h1
    next n e =>
      rw [Bool.and_eq_true, Nat.beq_eq] at h1
      unfold s_okI
      rw [s_enc_ok e hd, Bool.and_eq_true, Bool.and_eq_true]
      refine ⟨?_, h2, ?_⟩
      · show (decide (r.2.2.2.2.2.2.2 = r.2.2.2.2.2.2.2) && (Nat.beq n r.2.1 && (Nat.beq (s_len r.2.2.2.2.2.2.2) n || (Nat.beq r.2.2.1 25 || Nat.ble 44 r.2.2.1)))) = true
        rw [h1.1, Nat.beq_refl, decide_eq_true rfl, ← h1.1, h1.2]
        rfl
      · unfold s_pq at h3
        split at h3
        next e9 =>
          rw [e9]
        next i e9 =>
          rw [e9]
          show (Nat.ble 40 r.2.2.1 || g_lk.any _) = true
          rw [Bool.or_eq_true] at h3 ⊢
          rcases h3 with h3 | h3
          · exact Or.inl h3
          · refine Or.inr ?_
            rw [List.any_eq_true] at h3 ⊢
            obtain ⟨q, hq, hb⟩ := h3
            refine ⟨q, hp q hq, ?_⟩
            simp only [Bool.and_eq_true] at hb ⊢
            exact ⟨hb.2.1, hb.1, hb.2.2⟩
    next => cases h1
  · exact h
def s_drk : Nat → List UInt8 → (List UInt8 → Bool) → Bool
  | 0, bs, k => k bs
  | n + 1, bs, k => match bs with
    | _ :: t => s_drk n t k
    | [] => k []
theorem s_drk_eq : ∀ (n : Nat) (bs : List UInt8) (k : List UInt8 → Bool), s_drk n bs k = k (bs.drop n)
  | 0, _, _ => rfl
  | n + 1, [], k => by simp [s_drk]
  | n + 1, _ :: t, k => s_drk_eq n t k
def s_w (cc : ByteArray) (o : Nat) (pl : List g_LK) : List s_I → Nat → List UInt8 → Bool
  | [], _, _ => true
  | r :: t, pc, bs => Nat.beq r.1 pc && (s_fq cc o pl bs r && s_fn (pc + r.2.1) (fun pc => s_drk r.2.1 bs (fun bs => s_w cc o pl t pc bs)))
theorem s_w_ok {cc : ByteArray} {o : Nat} {pl : List g_LK} (hp : ∀ q ∈ pl, q ∈ g_lk) : ∀ {l : List s_I} {pc : Nat} {bs : List UInt8}, s_w cc o pl l pc bs = true → cc.data.toList.drop pc = bs → ∀ r ∈ l, s_okI cc o r = true
  | [], _, _, _, _, _, hr => by cases hr
  | r0 :: t, pc, bs, h, hd, r, hr => by
    have h : (Nat.beq r0.1 pc && (s_fq cc o pl bs r0 && s_fn (pc + r0.2.1) (fun pc => s_drk r0.2.1 bs (fun bs => s_w cc o pl t pc bs)))) = true := h
    rw [Bool.and_eq_true, Bool.and_eq_true, Nat.beq_eq, s_fn_eq, s_drk_eq] at h
    obtain ⟨h1, h2, h3⟩ := h
    rcases List.mem_cons.mp hr with rfl | hr
    · exact s_fq_ok h2 (by rw [h1]; exact hd) hp
    · exact s_w_ok hp h3 (by rw [← hd, List.drop_drop]) r hr
theorem s_pl_in (o : Nat) : ∀ q ∈ s_pl o, q ∈ g_lk := fun q h => (List.mem_filter.mp h).1
def s_wj (j : Nat) (l : List s_I) : Bool := s_fn (g_me j).2.1 (fun o => s_w (g_by j) o (s_pl o) l 0 (g_by j).data.toList)
theorem s_wj_ok {j : Nat} {l : List s_I} (h : s_wj j l = true) : l.all (s_okI (g_by j) (g_me j).2.1) = true := by
  unfold s_wj at h
  rw [s_fn_eq] at h
  exact List.all_eq_true.mpr (s_w_ok (s_pl_in _) h rfl)
def s_wl (cc : ByteArray) (l : List s_I) (pc : Nat) : Bool := s_w cc 13 (s_pl 13) l pc (cc.data.toList.drop pc)
theorem s_wl_ok {cc : ByteArray} {l : List s_I} {pc : Nat} (h : s_wl cc l pc = true) : l.all (s_okI cc 13) = true := List.all_eq_true.mpr (s_w_ok (s_pl_in _) h rfl)
theorem s_a1 {a b : Bool} (h : (a && b) = true) : a = true := by
  rw [Bool.and_eq_true] at h
  exact h.1
theorem s_a2 {a b : Bool} (h : (a && b) = true) : b = true := by
  rw [Bool.and_eq_true] at h
  exact h.2
