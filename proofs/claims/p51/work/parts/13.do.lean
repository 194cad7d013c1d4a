-- one step of the machine over bounds, calls and ends apart
def s_fv {α : Type} (v : s_V) (k : s_V → α) : α := s_fi v.2 (fun n => k (v.1, n))
theorem s_fv_eq {α : Type} (v : s_V) (k : s_V → α) : s_fv v k = k v := by simp [s_fv, s_fi_eq]
def s_tk (kd : Nat) (v : s_V) : Bool := match kd with
  | 0 => Nat.beq v.1 0 || Nat.beq v.1 2
  | 1 => Nat.beq v.1 1 || Nat.beq v.1 3
  | 2 => Nat.ble 4 v.1
  | 3 => Nat.ble 5 v.1
  | _ => Nat.beq v.1 4 || Nat.beq v.1 5
def s_conI : Instr → Option s_V
  | .iconst n => some (0, n)
  | .bipush n => some (0, (Int8.ofInt n).toInt32.toInt)
  | .sipush n => some (0, (Int16.ofInt n).toInt32.toInt)
  | .lconst n => some (1, ((n : Nat) : Int))
  | .aconst_null => some (4, 0)
  | _ => none
def s_ldI : Instr → Option (Nat × Nat)
  | .iload i => some (i, 0)
  | .iload_n k => some (k, 0)
  | .lload i => some (i, 1)
  | .lload_n k => some (k, 1)
  | .aload i => some (i, 2)
  | .aload_n k => some (k, 2)
  | _ => none
def s_stI : Instr → Option (Nat × Bool × Nat)
  | .istore i => some (i, false, 0)
  | .istore_n k => some (k, false, 0)
  | .lstore i => some (i, true, 1)
  | .lstore_n k => some (k, true, 1)
  | .astore i => some (i, false, 2)
  | .astore_n k => some (k, false, 2)
  | _ => none
def s_ibn : Instr → Option Nat
  | .iadd => some 0
  | .isub => some 1
  | .imul => some 2
  | .iand => some 3
  | .ior => some 4
  | .ixor => some 5
  | .ishl => some 6
  | .ishr => some 7
  | .iushr => some 8
  | _ => none
def s_fib : Nat → Int32 → Int32 → Int32
  | 0 => fun x y => x + y
  | 1 => fun x y => x - y
  | 2 => fun x y => x * y
  | 3 => fun x y => x &&& y
  | 4 => fun x y => x ||| y
  | 5 => fun x y => x ^^^ y
  | 6 => fun x y => x <<< (y &&& 31)
  | 7 => fun x y => x >>> (y &&& 31)
  | _ => fun x y => (x.toUInt32 >>> (y.toUInt32 &&& Int32.toUInt32 31)).toInt32
def s_idn : Instr → Option Nat
  | .idiv => some 0
  | .irem => some 1
  | _ => none
def s_fid : Nat → Int32 → Int32 → Int32
  | 0 => fun x y => x / y
  | _ => fun x y => x - x / y * y
def s_iun : Instr → Option Nat
  | .ineg => some 0
  | .i2b => some 1
  | .i2s => some 2
  | _ => none
def s_fiu : Nat → Int32 → Int32
  | 0 => fun x => -x
  | 1 => fun x => x.toInt8.toInt32
  | _ => fun x => x.toInt16.toInt32
def s_lbn : Instr → Option Nat
  | .ladd => some 0
  | .lsub => some 1
  | .lmul => some 2
  | _ => none
def s_flb : Nat → Int64 → Int64 → Int64
  | 0 => fun x y => x + y
  | 1 => fun x y => x - y
  | _ => fun x y => x * y
def s_ldn : Instr → Option Nat
  | .ldiv => some 0
  | .lrem => some 1
  | _ => none
def s_fld : Nat → Int64 → Int64 → Int64
  | 0 => fun x y => x / y
  | _ => fun x y => x - x / y * y
def s_nar : ArrayType → Nat
  | .int => 0
  | .long => 1
  | .boolean => 2
  | .byte => 3
  | _ => 9
def s_aln : Instr → Nat
  | .iaload => 0
  | .laload => 1
  | .baload => 2
  | .aaload => 3
  | _ => 9
def s_asn : Instr → Nat
  | .iastore => 0
  | .lastore => 1
  | .bastore => 2
  | .aastore => 3
  | _ => 9
def s_tgt (pc : Nat) (off : Int) : Option Nat := match (pc : Int) + off with
  | .ofNat n => some n
  | .negSucc _ => none
/-- what an instruction does, told by numbers, is what it is -/
def s_okQ (pc q a b : Nat) (v : Int) (ins : Instr) : Bool := match q with
  | 0 => decide (s_conI ins = some (a, v))
  | 1 => decide (s_ldI ins = some (a, b))
  | 2 => decide (s_stI ins = some (a, false, b))
  | 3 => decide (s_stI ins = some (a, true, b))
  | 4 => decide (ins = .iinc a v)
  | 5 => decide (ins = .dup)
  | 6 => decide (ins = .pop)
  | 7 => decide (ins = .dup_x1)
  | 8 => decide (ins = .dup2)
  | 9 => match ins with | .ldc _ => true | .ldc_w _ => true | _ => false
  | 10 => match ins with | .ldc2_w _ => true | _ => false
  | 11 => decide (s_ibn ins = some a)
  | 12 => decide (s_idn ins = some a)
  | 13 => decide (s_iun ins = some a)
  | 14 => decide (s_lbn ins = some a)
  | 15 => decide (s_ldn ins = some a)
  | 16 => decide (ins = .lneg)
  | 17 => decide (ins = .i2l)
  | 18 => decide (ins = .l2i)
  | 19 => decide (ins = .lcmp)
  | 20 => match ins with | .goto off => decide ((pc : Int) + off = (a : Int)) | _ => false
  | 21 => match ins with | .ifCond cd off => decide ((pc : Int) + off = (a : Int)) && Nat.beq (s_cdn cd) b | _ => false
  | 22 => match ins with | .if_icmp cd off => decide ((pc : Int) + off = (a : Int)) && Nat.beq (s_cdn cd) b | _ => false
  | 23 => match ins with | .ifnull off => decide ((pc : Int) + off = (a : Int)) | _ => false
  | 24 => match ins with | .ifnonnull off => decide ((pc : Int) + off = (a : Int)) | _ => false
  | 25 => match ins with | .tableswitch _ _ _ _ => true | _ => false
  | 26 => match ins with | .getfield _ => true | _ => false
  | 27 => match ins with | .putfield _ => true | _ => false
  | 28 => decide (ins = .arraylength)
  | 29 => match ins with | .newarray t => Nat.beq (s_nar t) a && Nat.blt a 4 | _ => false
  | 30 => match ins with | .anewarray _ => true | _ => false
  | 31 => match ins with | .new _ => true | _ => false
  | 32 => Nat.beq (s_aln ins) a && Nat.blt a 4
  | 33 => Nat.beq (s_asn ins) a && Nat.blt a 4
  | 34 => match ins with | .invokevirtual _ => true | _ => false
  | 35 => match ins with | .invokestatic _ => true | _ => false
  | 36 => match ins with | .invokespecial _ => true | _ => false
  | 37 => match ins with | .invokespecial _ => true | _ => false
  | 40 => decide (ins = .ireturn)
  | 41 => decide (ins = .lreturn)
  | 42 => decide (ins = .areturn)
  | 43 => decide (ins = .return_)
  | _ => true
def s_len : Instr → Nat
  | .bipush _ => 2
  | .iload _ => 2
  | .lload _ => 2
  | .aload _ => 2
  | .istore _ => 2
  | .lstore _ => 2
  | .astore _ => 2
  | .ldc _ => 2
  | .newarray _ => 2
  | .sipush _ => 3
  | .iinc _ _ => 3
  | .ldc_w _ => 3
  | .ldc2_w _ => 3
  | .goto _ => 3
  | .ifCond _ _ => 3
  | .if_icmp _ _ => 3
  | .ifnull _ => 3
  | .ifnonnull _ => 3
  | .getfield _ => 3
  | .putfield _ => 3
  | .new _ => 3
  | .anewarray _ => 3
  | .invokevirtual _ => 3
  | .invokespecial _ => 3
  | .invokestatic _ => 3
  | _ => 1
def s_okI (cc : ByteArray) (o : Nat) (r : s_I) : Bool := (match decode cc r.1 with
  | .ok (i, n) => decide (i = r.2.2.2.2.2.2.2) && (Nat.beq n r.2.1 && (Nat.beq (s_len i) n || (Nat.beq r.2.2.1 25 || Nat.ble 44 r.2.2.1)))
  | .error _ => false) && (s_okQ r.1 r.2.2.1 r.2.2.2.2.1 r.2.2.2.2.2.1 r.2.2.2.2.2.2.1 r.2.2.2.2.2.2.2 && (match s_pool r.2.2.2.2.2.2.2 with
  | none => true
  | some i => Nat.ble 40 r.2.2.1 || g_lk.any (fun q => Nat.beq q.1 o && (Nat.beq q.2.1 i && (Nat.beq q.2.2.1 r.2.2.2.1 && (Nat.beq q.2.2.2.1 r.2.2.2.2.1 && (Nat.beq q.2.2.2.2.1 r.2.2.2.2.2.1 && decide (q.2.2.2.2.2.1 = r.2.2.2.2.2.2.1))))))))
def s_find : s_L → Nat → Option s_V
  | [], _ => none
  | (j, v) :: t, i => bif Nat.beq j i then some v else s_find t i
/-- a known int, a known long -/
def s_kE (E : s_E) (k : Nat) : Option Int := match E[k]? with
  | some r => bif decide (r.1 = r.2) then some r.1 else none
  | none => none
def s_k (E : s_E) (v : s_V) : Option Int := bif Nat.beq v.1 0 then some v.2 else bif Nat.beq v.1 2 then s_kE E v.2.toNat else none
def s_kl (E : s_E) (v : s_V) : Option Int := bif Nat.beq v.1 1 then some v.2 else bif Nat.beq v.1 3 then s_kE E v.2.toNat else none
def s_push (t : List s_I) (L : s_L) (st : List s_V) (cn sn : Nat) (M : s_M) (v : s_V) : Option s_O := s_fv v (fun v => some (.inr (t, L, v :: st, cn, sn, M)))
def s_wf (L : s_L) (st : List s_V) (M : s_M) : Bool := s_wL M.1.length M.2.2.2.length L && (st.all (s_wV M.1.length M.2.2.2.length) && s_wM M.1.length M.2.2.2.length M)
/-- a number of which only bounds are known -/
def s_fresh (t : List s_I) (L : s_L) (st : List s_V) (cn sn : Nat) (M : s_M) (lo hi : Int) (B : s_B) : Option s_O :=
  bif Nat.ble 5 M.1.length && s_wf L st M then
    match M with
    | (E, R, _, H) => s_fn E.length (fun n => some (.inr (t, L, (2, (n : Int)) :: st, cn, sn, (E ++ [(lo, hi)], R, B, H)))) else none
def s_q1 (t : List s_I) (L : s_L) (st : List s_V) (cn sn : Nat) (M : s_M) (a b : Nat) : Option s_O := match s_find L a with
  | some v => bif s_tk b v then some (.inr (t, L, v :: st, cn, sn, M)) else none
  | none => none
def s_q2 (nL : Nat) (t : List s_I) (L : s_L) (st : List s_V) (cn sn : Nat) (M : s_M) (a b : Nat) : Option s_O := match st with
  | v :: rest => bif s_tk b v && Nat.blt a nL then s_fil1 a L (fun L' => some (.inr (t, (a, v) :: L', rest, cn, sn, M))) else none
  | [] => none
def s_q3 (nL : Nat) (t : List s_I) (L : s_L) (st : List s_V) (cn sn : Nat) (M : s_M) (a b : Nat) : Option s_O := match st with
  | v :: rest => bif s_tk b v && Nat.blt (a + 1) nL then s_fil2 a L (fun L' => some (.inr (t, (a, v) :: L', rest, cn, sn, M))) else none
  | [] => none
def s_q4 (nL : Nat) (t : List s_I) (L : s_L) (st : List s_V) (cn sn : Nat) (M : s_M) (a : Nat) (v : Int) : Option s_O := match s_find L a with
  | some u => match s_k M.1 u with
    | some x => bif Nat.blt a nL then s_fi (Int32.ofInt x + Int32.ofInt v).toInt (fun m => s_fil1 a L (fun L' => some (.inr (t, (a, (0, m)) :: L', st, cn, sn, M)))) else none
    | none => none
  | none => none
def s_q5 (t : List s_I) (L : s_L) (st : List s_V) (cn sn : Nat) (M : s_M) : Option s_O := match st with
  | v :: rest => bif s_c2 v then none else some (.inr (t, L, v :: v :: rest, cn, sn, M))
  | [] => none
def s_q6 (t : List s_I) (L : s_L) (st : List s_V) (cn sn : Nat) (M : s_M) : Option s_O := match st with
  | v :: rest => bif s_c2 v then none else some (.inr (t, L, rest, cn, sn, M))
  | [] => none
def s_q7 (t : List s_I) (L : s_L) (st : List s_V) (cn sn : Nat) (M : s_M) : Option s_O := match st with
  | v :: u :: rest => bif s_c2 v || s_c2 u then none else some (.inr (t, L, v :: u :: v :: rest, cn, sn, M))
  | _ => none
def s_q8 (t : List s_I) (L : s_L) (st : List s_V) (cn sn : Nat) (M : s_M) : Option s_O := match st with
  | v :: u :: rest => bif s_c2 v then some (.inr (t, L, v :: v :: u :: rest, cn, sn, M)) else bif s_c2 u then none else some (.inr (t, L, v :: u :: v :: u :: rest, cn, sn, M))
  | _ => none
def s_q11v (t : List s_I) (L : s_L) (rest : List s_V) (cn sn : Nat) (M : s_M) (i j : Nat) : Option s_O :=
  match M.2.2.1.find? (fun q => Nat.beq q.1 i && Nat.beq q.2.1 j) with
  | some q => some (.inr (t, L, (2, (q.2.2 : Int)) :: rest, cn, sn, M))
  | none => match M.1[i]?, M.1[j]? with
    | some ix, some iy => s_fi (ix.1 - iy.2) (fun lo => s_fi (ix.2 - iy.1) (fun hi => s_fn M.1.length (fun n => s_fresh t L rest cn sn M lo hi ((i, j, n) :: M.2.2.1))))
    | _, _ => none
def s_q11 (t : List s_I) (L : s_L) (st : List s_V) (cn sn : Nat) (M : s_M) (a : Nat) : Option s_O := match st with
  | y :: x :: rest => match s_k M.1 x, s_k M.1 y with
    | some m, some n => s_push t L rest cn sn M (0, (s_fib a (Int32.ofInt m) (Int32.ofInt n)).toInt)
    | _, _ => bif Nat.beq a 1 && (Nat.beq x.1 2 && Nat.beq y.1 2) then s_q11v t L rest cn sn M x.2.toNat y.2.toNat
      else bif s_tk 0 x && s_tk 0 y then s_fresh t L rest cn sn M (-2147483648) 2147483647 M.2.2.1 else none
  | _ => none
def s_q12 (t : List s_I) (L : s_L) (st : List s_V) (cn sn : Nat) (M : s_M) (a : Nat) : Option s_O := match st with
  | y :: x :: rest => match s_k M.1 x, s_k M.1 y with
    | some m, some n => bif decide (Int32.ofInt n = 0) then none else s_push t L rest cn sn M (0, (s_fid a (Int32.ofInt m) (Int32.ofInt n)).toInt)
    | _, _ => none
  | _ => none
def s_q13 (t : List s_I) (L : s_L) (st : List s_V) (cn sn : Nat) (M : s_M) (a : Nat) : Option s_O := match st with
  | x :: rest => match s_k M.1 x with
    | some m => s_push t L rest cn sn M (0, (s_fiu a (Int32.ofInt m)).toInt)
    | none => bif Nat.beq a 1 && s_tk 0 x then s_fresh t L rest cn sn M (-128) 127 M.2.2.1 else none
  | _ => none
def s_q14 (t : List s_I) (L : s_L) (st : List s_V) (cn sn : Nat) (M : s_M) (a : Nat) : Option s_O := match st with
  | y :: x :: rest => match s_kl M.1 x, s_kl M.1 y with
    | some m, some n => s_push t L rest cn sn M (1, (s_flb a (Int64.ofInt m) (Int64.ofInt n)).toInt)
    | some m, none => bif Nat.beq a 2 && (decide (m = 1) && s_tk 1 y) then some (.inr (t, L, y :: rest, cn, sn, M)) else none
    | none, some n => bif Nat.beq a 2 && (decide (n = 1) && s_tk 1 x) then some (.inr (t, L, x :: rest, cn, sn, M)) else none
    | _, _ => none
  | _ => none
def s_q15 (t : List s_I) (L : s_L) (st : List s_V) (cn sn : Nat) (M : s_M) (a : Nat) : Option s_O := match st with
  | y :: x :: rest => match s_kl M.1 x, s_kl M.1 y with
    | some m, some n => bif decide (Int64.ofInt n = 0) then none else s_push t L rest cn sn M (1, (s_fld a (Int64.ofInt m) (Int64.ofInt n)).toInt)
    | none, some n => bif decide (n = 1) && (s_tk 1 x && Nat.beq a 1) then some (.inr (t, L, (1, 0) :: rest, cn, sn, M)) else bif decide (n = 1) && (s_tk 1 x && Nat.beq a 0) then some (.inr (t, L, x :: rest, cn, sn, M)) else none
    | _, _ => none
  | _ => none
def s_q16 (t : List s_I) (L : s_L) (st : List s_V) (cn sn : Nat) (M : s_M) : Option s_O := match st with
  | x :: rest => match s_kl M.1 x with
    | some a => s_push t L rest cn sn M (1, (-(Int64.ofInt a)).toInt)
    | none => none
  | _ => none
def s_q17 (t : List s_I) (L : s_L) (st : List s_V) (cn sn : Nat) (M : s_M) : Option s_O := match st with
  | x :: rest => match s_k M.1 x with
    | some a => s_push t L rest cn sn M (1, (Int32.ofInt a).toInt64.toInt)
    | none => match s_iv M.1 x with
      | some _ => bif Nat.beq x.1 2 then some (.inr (t, L, (3, x.2) :: rest, cn, sn, M)) else none
      | none => none
  | _ => none
def s_q18 (t : List s_I) (L : s_L) (st : List s_V) (cn sn : Nat) (M : s_M) : Option s_O := match st with
  | x :: rest => match s_kl M.1 x with
    | some a => s_push t L rest cn sn M (0, (Int64.ofInt a).toInt32.toInt)
    | none => none
  | _ => none
def s_o (c : Option (Nat × Nat × Int)) : Option s_O := match c with
  | some c => some (.inl c)
  | none => none
def s_q19 (t : List s_I) (L : s_L) (st : List s_V) (cn sn : Nat) (M : s_M) : Option s_O := match st with
  | y :: x :: rest => match s_ivl M.1 x, s_ivl M.1 y with
    | some ix, some iy => match s_lt M.2.1 ix iy x y with
      | 1 => some (.inr (t, L, (0, -1) :: rest, cn, sn, M))
      | 0 => match s_eq ix iy x y with
        | 1 => some (.inr (t, L, (0, 0) :: rest, cn, sn, M))
        | 0 => some (.inr (t, L, (0, 1) :: rest, cn, sn, M))
        | _ => s_o (s_eqc ix iy x y)
      | _ => s_o (s_ltc ix iy x y)
    | _, _ => none
  | _ => none
def s_jmp (full : List s_I) (pc : Nat) (L : s_L) (st : List s_V) (cn sn : Nat) (M : s_M) : Option s_O := match s_jump full pc with
  | some t' => some (.inr (t', L, st, cn, sn, M))
  | none => none
def s_nxt (r : s_I) (t : List s_I) (L : s_L) (st : List s_V) (cn sn : Nat) (M : s_M) : Option s_O := bif s_go r t then some (.inr (t, L, st, cn, sn, M)) else none
def s_q21 (full : List s_I) (r : s_I) (t : List s_I) (L : s_L) (st : List s_V) (cn sn : Nat) (M : s_M) (a b : Nat) : Option s_O := match st with
  | x :: rest => match s_iv M.1 x with
    | some ix => match s_cond M.2.1 ix (0, 0) x (0, 0) b with
      | 1 => s_jmp full a L rest cn sn M
      | 0 => s_nxt r t L rest cn sn M
      | _ => s_o (s_condc ix (0, 0) x (0, 0) b)
    | none => none
  | _ => none
def s_q22 (full : List s_I) (r : s_I) (t : List s_I) (L : s_L) (st : List s_V) (cn sn : Nat) (M : s_M) (a b : Nat) : Option s_O := match st with
  | y :: x :: rest => match s_iv M.1 x, s_iv M.1 y with
    | some ix, some iy => match s_cond M.2.1 ix iy x y b with
      | 1 => s_jmp full a L rest cn sn M
      | 0 => s_nxt r t L rest cn sn M
      | _ => s_o (s_condc ix iy x y b)
    | _, _ => none
  | _ => none
def s_q23 (full : List s_I) (r : s_I) (t : List s_I) (L : s_L) (st : List s_V) (cn sn : Nat) (M : s_M) (a : Nat) (nn : Bool) : Option s_O := match st with
  | x :: rest => bif Nat.beq x.1 4 || Nat.beq x.1 5 then (bif (Nat.beq x.1 5) == nn then s_jmp full a L rest cn sn M else s_nxt r t L rest cn sn M) else none
  | _ => none
def s_q25 (full : List s_I) (r : s_I) (L : s_L) (st : List s_V) (cn sn : Nat) (M : s_M) : Option s_O := match r.2.2.2.2.2.2.2 with
  | .tableswitch dflt lo hi offs => match st with
    | x :: rest => match s_iv M.1 x with
      | some ix =>
        bif decide (ix.2 < lo) || decide (hi < ix.1) then
          match s_tgt r.1 dflt with
          | some pc => s_jmp full pc L rest cn sn M
          | none => none
        else bif decide (ix.1 = ix.2) then
          match offs[(ix.1 - lo).toNat]? with
          | some off => match s_tgt r.1 off with
            | some pc => s_jmp full pc L rest cn sn M
            | none => none
          | none => none
        else bif Nat.beq x.1 2 then some (.inl (0, x.2.toNat, bif decide (ix.1 < lo) then lo else ix.1 + 1)) else none
      | none => none
    | _ => none
  | _ => none
/-- of a field: 0 int, 1 long, 2 boolean, 3 a reference; is it final -/
abbrev s_FT : Type := List (List (Nat × Bool))
def s_bo (v : s_V) : Bool := Nat.beq v.1 0 && (decide (v.2 = 0) || decide (v.2 = 1))
def s_fok (ty : Nat) (v : s_V) : Bool := match ty with
  | 0 => s_tk 0 v
  | 1 => s_tk 1 v
  | 2 => s_bo v
  | _ => s_tk 2 v
def s_dv (ty : Nat) : s_V := match ty with
  | 0 => (0, 0)
  | 1 => (1, 0)
  | 2 => (0, 0)
  | _ => (4, 0)
def s_dva (a : Nat) : s_V := match a with
  | 1 => (1, 0)
  | _ => (0, 0)
def s_dfl : Nat → List (Nat × Bool) → List (Nat × s_V)
  | _, [] => []
  | j, f :: t => (j, s_dv f.1) :: s_dfl (j + 1) t
def s_cell (M : s_M) (v : s_V) : Option s_C := bif Nat.beq v.1 5 then M.2.2.2[v.2.toNat]? else none
/-- an index within: it, or a cut -/
def s_idx (E : s_E) (n : Nat) (j : s_V) : Option ((Nat × Nat × Int) ⊕ Nat) := match s_iv E j with
  | some ix => bif decide (0 ≤ ix.1) && decide (ix.2 < (n : Int)) then
      (bif decide (ix.1 = ix.2) then s_fn ix.1.toNat (fun m => some (.inr m)) else bif Nat.beq j.1 2 then some (.inl (0, j.2.toNat, ix.1 + 1)) else none) else none
  | none => none
def s_inb (E : s_E) (n : Nat) (j : s_V) : Bool := match s_iv E j with
  | some ix => decide (0 ≤ ix.1) && decide (ix.2 < (n : Int))
  | none => false
/-- a cell for a load or store of this kind -/
def s_akd (a tag : Nat) : Bool := match a with
  | 0 => Nat.beq tag 0
  | 1 => Nat.beq tag 1
  | 2 => Nat.beq tag 2 || Nat.beq tag 3
  | _ => Nat.beq tag 4
def s_aty (a : Nat) : Nat := match a with
  | 0 => 0
  | 1 => 1
  | 2 => 0
  | _ => 4
def s_mk (t : List s_I) (L : s_L) (st : List s_V) (cn sn : Nat) (M : s_M) (c : s_C) : Option s_O :=
  bif s_wf L st M then
    match M with
    | (E, R, B, H0) => s_fn H0.length (fun n => s_app H0 c (fun H => s_fn (cn + 1) (fun cn => s_fn (sn + c.2.2.1) (fun sn => some (.inr (t, L, (5, (n : Int)) :: st, cn, sn, (E, R, B, H))))))) else none
def s_stv (M : s_M) (tag : Nat) (v : s_V) : Bool := match tag with
  | 0 => s_tk 0 v
  | 1 => s_tk 1 v
  | 2 => s_bo v
  | 3 => match s_iv M.1 v with
    | some iv => decide (-128 ≤ iv.1) && decide (iv.2 ≤ 127)
    | none => false
  | _ => match s_cell M v with
    | some c => !c.1 && Nat.beq c.2.1 1
    | none => false
def s_set (t : List s_I) (L : s_L) (st : List s_V) (cn sn : Nat) (M : s_M) (p : Nat) (c : s_C) (k : Nat) (v : s_V) : Option s_O :=
  match M, c with
  | (E, R, B, H0), (x, y, n, d, f0) => s_putK f0 k v (fun fs => s_hset H0 p (x, y, n, d, fs) (fun H => some (.inr (t, L, st, cn, sn, (E, R, B, H)))))
def s_q26 (t : List s_I) (L : s_L) (st : List s_V) (cn sn : Nat) (M : s_M) (kd a b : Nat) : Option s_O := match st with
  | u :: rest => match s_cell M u with
    | some c => bif Nat.ble kd 1 && (!c.1 && (Nat.beq c.2.1 a && Nat.blt b c.2.2.1)) then some (.inr (t, L, s_lk c.2.2.2.2 b c.2.2.2.1 :: rest, cn, sn, M)) else none
    | none => none
  | _ => none
def s_q27 (ft : s_FT) (o : Nat) (ini : Bool) (t : List s_I) (L : s_L) (st : List s_V) (cn sn : Nat) (M : s_M) (kd a b : Nat) : Option s_O := match st with
  | v :: u :: rest => match s_cell M u with
    | some c => match (ft.getD a []).getD b (9, true) with
      | (ty, fin) => bif Nat.ble kd 1 && (!c.1 && (Nat.beq c.2.1 a && (Nat.blt b c.2.2.1 && (s_fok ty v && (Nat.blt ty 4 && (!fin || (Nat.beq kd 0 && (ini && Nat.beq o a)))))))) then s_set t L rest cn sn M u.2.toNat c b v else none
    | none => none
  | _ => none
def s_q28 (scr : Nat) (t : List s_I) (L : s_L) (st : List s_V) (cn sn : Nat) (M : s_M) : Option s_O := match st with
  | u :: rest => bif Nat.blt 0 scr && Nat.beq u.1 7 then some (.inr (t, L, (0, ((scr - 1 : Nat) : Int)) :: rest, cn, sn, M)) else match s_cell M u with
    | some c => bif c.1 && Nat.blt c.2.1 5 then some (.inr (t, L, (0, (c.2.2.1 : Int)) :: rest, cn, sn, M)) else none
    | none => none
  | _ => none
def s_q29 (bc bs : Nat) (t : List s_I) (L : s_L) (st : List s_V) (cn sn : Nat) (M : s_M) (a : Nat) : Option s_O := match st with
  | x :: rest => match s_k M.1 x with
    | some n => bif decide (0 ≤ n) && (decide (n ≤ 65536) && (Nat.ble (cn + 1) bc && Nat.ble (sn + n.toNat) bs)) then s_mk t L rest cn sn M (true, a, n.toNat, s_dva a, []) else none
    | _ => none
  | _ => none
def s_q30 (bc bs : Nat) (t : List s_I) (L : s_L) (st : List s_V) (cn sn : Nat) (M : s_M) (kd a : Nat) : Option s_O := match st with
  | x :: rest => match s_k M.1 x with
    | some n => bif decide (0 ≤ n) && (decide (n ≤ 65536) && (Nat.ble (cn + 1) bc && (Nat.ble (sn + n.toNat) bs && (Nat.beq kd 9 && Nat.beq a 1)))) then s_mk t L rest cn sn M (true, 4, n.toNat, (4, 0), []) else none
    | _ => none
  | _ => none
def s_q31 (ft : s_FT) (bc bs : Nat) (t : List s_I) (L : s_L) (st : List s_V) (cn sn : Nat) (M : s_M) (kd a b : Nat) : Option s_O :=
  bif Nat.ble (cn + 1) bc && (Nat.ble (sn + b) bs && Nat.beq kd 9) then s_mk t L st cn sn M (false, a, b, (0, 0), s_dfl 0 (ft.getD a [])) else none
def s_q32 (scr : Nat) (t : List s_I) (L : s_L) (st : List s_V) (cn sn : Nat) (M : s_M) (a : Nat) : Option s_O := match st with
  | j :: u :: rest => bif Nat.blt 0 scr && (Nat.beq u.1 7 && (Nat.beq a 0 && Nat.ble scr 6)) then
      match s_idx M.1 (scr - 1) j with
      | some (.inr k) => some (.inr (t, L, (2, (k : Int)) :: rest, cn, sn, M))
      | some (.inl c) => some (.inl c)
      | none => none
    else match s_cell M u with
    | some c => bif c.1 && s_akd a c.2.1 then
        bif c.2.2.2.2.isEmpty && (s_inb M.1 c.2.2.1 j && s_tk (s_aty a) c.2.2.2.1) then some (.inr (t, L, c.2.2.2.1 :: rest, cn, sn, M))
        else match s_idx M.1 c.2.2.1 j with
        | some (.inr k) => bif s_tk (s_aty a) (s_lk c.2.2.2.2 k c.2.2.2.1) then some (.inr (t, L, s_lk c.2.2.2.2 k c.2.2.2.1 :: rest, cn, sn, M)) else none
        | some (.inl c) => some (.inl c)
        | none => none
      else none
    | none => none
  | _ => none
def s_q33 (t : List s_I) (L : s_L) (st : List s_V) (cn sn : Nat) (M : s_M) (a : Nat) : Option s_O := match st with
  | v :: j :: u :: rest => match s_cell M u with
    | some c => bif c.1 && (s_akd a c.2.1 && s_stv M c.2.1 v) then
        match s_idx M.1 c.2.2.1 j with
        | some (.inr k) => s_set t L rest cn sn M u.2.toNat c k v
        | some (.inl c) => some (.inl c)
        | none => none
      else none
    | none => none
  | _ => none
def s_tkn : Nat → List s_V → List s_V → Option (List s_V × List s_V)
  | 0, st, acc => some (acc, st)
  | n + 1, v :: st, acc => s_tkn n st (v :: acc)
  | _ + 1, [], _ => none
def s_sum : List s_V → Nat
  | [] => 0
  | v :: t => (bif s_c2 v then 2 else 1) + s_sum t
def s_q37 (t : List s_I) (L : s_L) (st : List s_V) (cn sn : Nat) (M : s_M) (kd : Nat) : Option s_O := match st with
  | a :: rest => match s_cell M a with
    | some _ => bif Nat.beq kd 8 && Nat.ble (s_sum rest) 8 then some (.inr (t, L, rest, cn, sn, M)) else none
    | none => none
  | _ => none
-- by what it does
def s_d1 (nL : Nat) (t : List s_I) (L : s_L) (st : List s_V) (cn sn : Nat) (M : s_M) (q kd a b : Nat) (v : Int) : Option s_O :=
  bif Nat.blt q 2 then (bif Nat.beq q 0 then s_push t L st cn sn M (a, v) else s_q1 t L st cn sn M a b)
  else bif Nat.blt q 4 then (bif Nat.beq q 2 then s_q2 nL t L st cn sn M a b else s_q3 nL t L st cn sn M a b)
  else s_q4 nL t L st cn sn M a v
def s_d2 (t : List s_I) (L : s_L) (st : List s_V) (cn sn : Nat) (M : s_M) (q kd a b : Nat) (v : Int) : Option s_O :=
  bif Nat.blt q 7 then (bif Nat.beq q 5 then s_q5 t L st cn sn M else s_q6 t L st cn sn M)
  else bif Nat.blt q 9 then (bif Nat.beq q 7 then s_q7 t L st cn sn M else s_q8 t L st cn sn M)
  else bif Nat.beq q 9 && Nat.beq kd 10 then some (.inr (t, L, (0, v) :: st, cn, sn, M))
  else bif Nat.beq q 10 && Nat.beq kd 11 then some (.inr (t, L, (1, v) :: st, cn, sn, M)) else none
def s_d3 (t : List s_I) (L : s_L) (st : List s_V) (cn sn : Nat) (M : s_M) (q a : Nat) : Option s_O :=
  bif Nat.blt q 13 then (bif Nat.beq q 11 then s_q11 t L st cn sn M a else s_q12 t L st cn sn M a)
  else bif Nat.beq q 13 then s_q13 t L st cn sn M a
  else bif Nat.beq q 14 then s_q14 t L st cn sn M a else s_q15 t L st cn sn M a
def s_d4 (t : List s_I) (L : s_L) (st : List s_V) (cn sn : Nat) (M : s_M) (q : Nat) : Option s_O :=
  bif Nat.blt q 18 then (bif Nat.beq q 16 then s_q16 t L st cn sn M else s_q17 t L st cn sn M)
  else (bif Nat.beq q 18 then s_q18 t L st cn sn M else s_q19 t L st cn sn M)
def s_d5 (full : List s_I) (r : s_I) (t : List s_I) (L : s_L) (st : List s_V) (cn sn : Nat) (M : s_M) (q a b : Nat) : Option s_O :=
  bif Nat.blt q 22 then (bif Nat.beq q 20 then s_jmp full a L st cn sn M else s_q21 full r t L st cn sn M a b)
  else bif Nat.beq q 22 then s_q22 full r t L st cn sn M a b
  else bif Nat.beq q 25 then s_q25 full r L st cn sn M else s_q23 full r t L st cn sn M a (Nat.beq q 24)
def s_d6 (ft : s_FT) (scr : Nat) (o : Nat) (ini : Bool) (bc bs : Nat) (t : List s_I) (L : s_L) (st : List s_V) (cn sn : Nat) (M : s_M) (q kd a b : Nat) : Option s_O :=
  bif Nat.blt q 28 then (bif Nat.beq q 26 then s_q26 t L st cn sn M kd a b else s_q27 ft o ini t L st cn sn M kd a b)
  else bif Nat.blt q 30 then (bif Nat.beq q 28 then s_q28 scr t L st cn sn M else s_q29 bc bs t L st cn sn M a)
  else (bif Nat.beq q 30 then s_q30 bc bs t L st cn sn M kd a else s_q31 ft bc bs t L st cn sn M kd a b)
def s_d7 (scr : Nat) (t : List s_I) (L : s_L) (st : List s_V) (cn sn : Nat) (M : s_M) (q kd a : Nat) : Option s_O :=
  bif Nat.beq q 32 then s_q32 scr t L st cn sn M a else bif Nat.beq q 33 then s_q33 t L st cn sn M a else bif Nat.beq q 37 then s_q37 t L st cn sn M kd else none
def s_do (full : List s_I) (ft : s_FT) (scr : Nat) (o nL : Nat) (ini : Bool) (bc bs : Nat) (r : s_I) (t : List s_I) (L : s_L) (st : List s_V) (cn sn : Nat) (M : s_M) : Option s_O :=
  match r with
  | (_, _, q, kd, a, b, v, _) =>
    bif Nat.blt q 20 then
      bif s_go r t then
        bif Nat.blt q 5 then s_d1 nL t L st cn sn M q kd a b v
        else bif Nat.blt q 11 then s_d2 t L st cn sn M q kd a b v
        else bif Nat.blt q 16 then s_d3 t L st cn sn M q a
        else s_d4 t L st cn sn M q
      else none
    else bif Nat.blt q 26 then s_d5 full r t L st cn sn M q a b
    else bif s_go r t then (bif Nat.blt q 32 then s_d6 ft scr o ini bc bs t L st cn sn M q kd a b else s_d7 scr t L st cn sn M q kd a) else none
