-- a plain machine: one frame's steps over a list of cells, calls by a parameter; what it answers the Java machine answers (part 04)
-- a place of the table, by its chunk
def g_tc (c : Nat) : List Cond := match c with
  | 0 => tables_1_1
  | 1 => tables_1_2
  | 2 => tables_1_3
  | 3 => tables_1_4
  | 4 => tables_1_5
  | 5 => tables_1_6
  | 6 => tables_1_7
  | 7 => tables_1_8
  | _ => []
def g_tb (i : Nat) : Option Cond := (g_tc (i / 240))[i % 240]?
theorem g_tbl {a b : List Cond} {i n : Nat} (hl : a.length = 240) (h1 : n ≤ i) : (a ++ b)[i - n]? = if i < n + 240 then a[i - n]? else b[i - (n + 240)]? := by
  by_cases h : i < n + 240
  · rw [if_pos h, List.getElem?_append_left (by omega)]
  · rw [if_neg h, List.getElem?_append_right (by omega), hl, show i - n - 240 = i - (n + 240) by omega]
set_option maxRecDepth 20000 in
theorem g_tb_eq (i : Nat) : g_tb i = tables_1[i]? := by
  have l1 : tables_1_1.length = 240 := by decide +kernel
  have l2 : tables_1_2.length = 240 := by decide +kernel
  have l3 : tables_1_3.length = 240 := by decide +kernel
  have l4 : tables_1_4.length = 240 := by decide +kernel
  have l5 : tables_1_5.length = 240 := by decide +kernel
  have l6 : tables_1_6.length = 240 := by decide +kernel
  have l7 : tables_1_7.length = 240 := by decide +kernel
  have e0 : tables_1[i]? = tables_1[i - 0]? := rfl
  unfold g_tb
  rw [e0, tables_1, g_tbl l1 (by omega)]
  by_cases c1 : i < 240
  · rw [if_pos (by omega), show i / 240 = 0 by omega, show i % 240 = i - 0 by omega]
    rfl
  rw [if_neg (by omega)]
  rw [show 0 + 240 = 240 from rfl, g_tbl l2 (by omega)]
  by_cases c2 : i < 480
  · rw [if_pos (by omega), show i / 240 = 1 by omega, show i % 240 = i - 240 by omega]
    rfl
  rw [if_neg (by omega)]
  rw [show 240 + 240 = 480 from rfl, g_tbl l3 (by omega)]
  by_cases c3 : i < 720
  · rw [if_pos (by omega), show i / 240 = 2 by omega, show i % 240 = i - 480 by omega]
    rfl
  rw [if_neg (by omega)]
  rw [show 480 + 240 = 720 from rfl, g_tbl l4 (by omega)]
  by_cases c4 : i < 960
  · rw [if_pos (by omega), show i / 240 = 3 by omega, show i % 240 = i - 720 by omega]
    rfl
  rw [if_neg (by omega)]
  rw [show 720 + 240 = 960 from rfl, g_tbl l5 (by omega)]
  by_cases c5 : i < 1200
  · rw [if_pos (by omega), show i / 240 = 4 by omega, show i % 240 = i - 960 by omega]
    rfl
  rw [if_neg (by omega)]
  rw [show 960 + 240 = 1200 from rfl, g_tbl l6 (by omega)]
  by_cases c6 : i < 1440
  · rw [if_pos (by omega), show i / 240 = 5 by omega, show i % 240 = i - 1200 by omega]
    rfl
  rw [if_neg (by omega)]
  rw [show 1200 + 240 = 1440 from rfl, g_tbl l7 (by omega)]
  by_cases c7 : i < 1680
  · rw [if_pos (by omega), show i / 240 = 6 by omega, show i % 240 = i - 1440 by omega]
    rfl
  rw [if_neg (by omega)]
  by_cases c8 : i < 1920
  · rw [show i / 240 = 7 by omega, show i % 240 = i - 1680 by omega]
    rfl
  · have h8 : tables_1_8.length ≤ 240 := by decide +kernel
    rw [List.getElem?_eq_none (show tables_1_8.length ≤ i - (1440 + 240) by omega)]
    obtain ⟨m, hm⟩ : ∃ m, i / 240 = m + 8 := ⟨i / 240 - 8, by omega⟩
    rw [hm]
    rfl
def lw_tb (i : Nat) : Option Cond := bif Nat.blt i 73 then (k2_sels lw_privs)[i]? else g_tb (i - 73)
theorem lw_tb_eq (i : Nat) : lw_tb i = lw_tbl[i]? := by
  have hl : (k2_sels lw_privs).length = 73 := by decide +kernel
  unfold lw_tb lw_tbl
  cases e : Nat.blt i 73
  · have : ¬ i < 73 := fun h => by
      rw [Nat.blt_eq.mpr h] at e
      cases e
    rw [cond_false, g_tb_eq, List.getElem?_append_right (by omega), hl]
  · rw [Nat.blt_eq] at e
    rw [cond_true, List.getElem?_append_left (by omega)]
def g_cw (i : Nat) : MethodName × ByteArray × Nat × Option FieldType := match g_tb i with
  | some (.code y b n r) => (y, b, n, r)
  | _ => (⟨"", "", ""⟩, ⟨#[]⟩, 0, none)
def g_isc (i : Nat) : Bool := match g_tb i with
  | some (.code _ _ _ _) => true
  | _ => false
theorem g_isc_in {i : Nat} (h : g_isc i = true) : Cond.code (g_cw i).1 (g_cw i).2.1 (g_cw i).2.2.1 (g_cw i).2.2.2 ∈ tables_1 := by
  unfold g_isc at h
  unfold g_cw
  split at h
  next y b n r e =>
    rw [g_tb_eq] at e
    exact List.mem_of_getElem? e
  next => cases h
/-- a method: its place, its class, its arguments -/
def g_me (j : Nat) : Nat × Nat × Nat := g_mt.getD j (0, 0, 0)
def g_y (j : Nat) : MethodName := (g_cw (g_me j).1).1
def g_by (j : Nat) : ByteArray := (g_cw (g_me j).1).2.1
def g_nl (j : Nat) : Nat := (g_cw (g_me j).1).2.2.1
def g_rt (j : Nat) : Option FieldType := (g_cw (g_me j).1).2.2.2
def g_fd (a b : Nat) : String × Bool := ((g_fl.getD a ("", [])).2.getD b ("", "", false)).2
def g_fn (a b : Nat) : String := ((g_fl.getD a ("", [])).2.getD b ("", "", false)).1
/-- the words of a pool entry -/
def g_wd (o idx kd a b : Nat) (v : Int) : List Cond := match kd with
  | 0 => [.fieldLink (g_cn o) idx (g_cn a) (g_fn a b) (g_fd a b).1]
  | 1 => [.fieldLinkNest (g_cn o) idx (g_cn a) (g_fn a b) (g_fd a b).1 "GreenGears"]
  | 2 => [.methodLink (g_cn o) idx (g_y a), .initialized (g_y a).cls, .instanceMethod (g_y a), .selects (g_y a).cls (g_y a) (g_y a)]
  | 3 => [.methodLinkNest (g_cn o) idx (g_y a) "GreenGears", .initialized (g_y a).cls, .instanceMethod (g_y a), .selects (g_y a).cls (g_y a) (g_y a)]
  | 4 => [.methodLink (g_cn o) idx (g_y a), .initialized (g_y a).cls, .static (g_y a)]
  | 5 => [.methodLinkNest (g_cn o) idx (g_y a) "GreenGears", .initialized (g_y a).cls, .static (g_y a)]
  | 6 => [.methodLink (g_cn o) idx (g_y a), .initialized (g_y a).cls, .instanceMethod (g_y a)]
  | 7 => [.methodLinkNest (g_cn o) idx (g_y a) "GreenGears", .initialized (g_y a).cls, .instanceMethod (g_y a)]
  | 8 => [.methodLink (g_cn o) idx objectInit, .instanceMethod objectInit]
  | 9 => [.classLink (g_cn o) idx (g_cn a), .instantiable (g_cn a) b, .initialized (g_cn a)]
  | 10 => [.constant (g_cn o) idx (Int32.ofInt v)]
  | 11 => [.constantLong (g_cn o) idx (Int64.ofInt v)]
  | _ => [.constantDouble (g_cn o) idx (UInt64.ofNat v.toNat)]
abbrev g_LK : Type := Nat × Nat × Nat × Nat × Nat × Int × List Nat
/-- what the kinds want of their numbers -/
def g_lkn (r : g_LK) : Bool := match r.2.2.1 with
  | 0 => decide (r.2.2.2.1 < g_fl.length) && decide (r.2.2.2.2.1 < (g_fl.getD r.2.2.2.1 ("", [])).2.length)
  | 1 => decide (r.2.2.2.1 < g_fl.length) && decide (r.2.2.2.2.1 < (g_fl.getD r.2.2.2.1 ("", [])).2.length)
  | 9 => decide (r.2.2.2.1 < g_fl.length) && r.2.2.2.2.1 == (g_fl.getD r.2.2.2.1 ("", [])).2.length
  | 6 => decide (r.2.2.2.1 < g_mt.length) && r.2.2.2.2.1 == (g_me r.2.2.2.1).2.2 && (g_y r.2.2.2.1).name == "<init>" && (g_rt r.2.2.2.1).isNone
  | 7 => decide (r.2.2.2.1 < g_mt.length) && r.2.2.2.2.1 == (g_me r.2.2.2.1).2.2 && (g_y r.2.2.2.1).name == "<init>" && (g_rt r.2.2.2.1).isNone
  | 8 => true
  | 10 => true
  | 11 => true
  | 12 => true
  | _ => decide (r.2.2.2.1 < g_mt.length) && r.2.2.2.2.1 == (g_me r.2.2.2.1).2.2
def g_isn : Cond → Bool
  | .fieldLinkNest _ _ _ _ _ _ => true
  | .methodLinkNest _ _ _ _ => true
  | _ => false
def g_lkok (r : g_LK) : Bool := decide (g_wd r.1 r.2.1 r.2.2.1 r.2.2.2.1 r.2.2.2.2.1 r.2.2.2.2.2.1 = r.2.2.2.2.2.2.filterMap lw_tb) && (g_wd r.1 r.2.1 r.2.2.1 r.2.2.2.1 r.2.2.2.2.1 r.2.2.2.2.2.1).all (fun w => goodWord w || g_isn w) && g_lkn r
def g_mtok (r : Nat × Nat × Nat) : Bool := g_isc r.1 && (g_cw r.1).1.cls == g_cn r.2.1 && plainFor (g_cw r.1).1 && decide ((g_cw r.1).1.cls ≠ "java/lang/invoke/MethodHandle" ∧ (g_cw r.1).1.cls ≠ "java/lang/invoke/VarHandle") && decide ((parseMethodDescriptor (g_cw r.1).1.desc).map (fun d => d.parameters.length) = some r.2.2) && decide ((g_cw r.1).2.2.1 ≤ 100) && goodWord (Cond.code (g_cw r.1).1 (g_cw r.1).2.1 (g_cw r.1).2.2.1 (g_cw r.1).2.2.2)
-- cells: array or object, its kind (of arrays 0 int, 1 long, 2 boolean, 3 byte, 4 Build; of objects the class), its length, what it holds
abbrev g_HC : Type := Bool × Nat × Nat × (Nat → Value)
abbrev g_H : Type := List (Nat × g_HC)
abbrev g_L : Type := List (Nat × Value)
abbrev g_W : Type := Nat × Nat × g_H
abbrev g_S : Type := Nat × g_L × List Value × g_W
def g_i : Value → Int32
  | .int x => x
  | _ => 0
def g_l : Value → Int64
  | .long x => x
  | _ => 0
def g_r : Value → Option Nat
  | .ref x => some x
  | _ => none
def g_up (f : Nat → Value) (k : Nat) (v : Value) : Nat → Value := fun j => if j = k then v else f j
def g_tr (dA : Nat → ClassId) (c : g_HC) : va_E := match c with
  | (false, ci, n, f) => .inr (ci, (List.range n).map f)
  | (true, 0, n, f) => .inl (dA 0, n, .inl (fun j => g_i (f j)))
  | (true, 1, n, f) => .inl (dA 1, n, .inr (.inl (fun j => g_l (f j))))
  | (true, 2, n, f) => .inl (dA 2, n, .inl (fun j => g_i (f j)))
  | (true, 3, n, f) => .inl (dA 3, n, .inl (fun j => g_i (f j)))
  | (true, _, n, f) => .inl (dA 4, n, .inr (.inr (.inr (.inr (fun j => g_r (f j))))))
def g_tw (dA : Nat → ClassId) (h : g_H) : va_W := h.map (fun c => (c.1, g_tr dA c.2))
def g_bu : String := "GreenGears$Build"
def g_ty : Nat → FieldType
  | 0 => .int
  | 1 => .long
  | 2 => .boolean
  | 3 => .byte
  | _ => .object g_bu
def g_tys (dA : Nat → ClassId) : List (ClassId × FieldType) := [(dA 0, .int), (dA 1, .long), (dA 2, .boolean), (dA 3, .byte), (dA 4, .object g_bu)]
def g_at : Nat → ArrayType
  | 0 => .int
  | 1 => .long
  | 2 => .boolean
  | _ => .byte
def g_st1 (i : Nat) (v : Value) (L : g_L) : g_L := (i, v) :: L.filter (fun q => !(q.1 == i) && !(q.1 + 1 == i && q.2.category == 2))
def g_st2 (i : Nat) (v : Value) (L : g_L) : g_L := (i, v) :: L.filter (fun q => !(q.1 == i) && (!(q.1 == i + 1) && !(q.1 + 1 == i && q.2.category == 2)))
def g_ib : Instr → Option (Int32 → Int32 → Int32)
  | .iadd => some (fun x y => x + y)
  | .isub => some (fun x y => x - y)
  | .imul => some (fun x y => x * y)
  | .iand => some (fun x y => x &&& y)
  | .ior => some (fun x y => x ||| y)
  | .ixor => some (fun x y => x ^^^ y)
  | .ishl => some (fun x y => x <<< (y &&& 31))
  | .ishr => some (fun x y => x >>> (y &&& 31))
  | .iushr => some (fun x y => (x.toUInt32 >>> (y.toUInt32 &&& Int32.toUInt32 31)).toInt32)
  | _ => none
def g_id : Instr → Option (Int32 → Int32 → Int32)
  | .idiv => some (fun x y => x / y)
  | .irem => some (fun x y => x - x / y * y)
  | _ => none
def g_iu : Instr → Option (Int32 → Int32)
  | .ineg => some (fun x => -x)
  | .i2b => some (fun x => x.toInt8.toInt32)
  | .i2s => some (fun x => x.toInt16.toInt32)
  | _ => none
def g_lb : Instr → Option (Int64 → Int64 → Int64)
  | .ladd => some (fun x y => x + y)
  | .lsub => some (fun x y => x - y)
  | .lmul => some (fun x y => x * y)
  | _ => none
def g_ld : Instr → Option (Int64 → Int64 → Int64)
  | .ldiv => some (fun x y => x / y)
  | .lrem => some (fun x y => x - x / y * y)
  | _ => none
/-- loads of what stands in a local: index, length of the instruction, which values -/
def g_load : Instr → Option (Nat × Nat × (Value → Bool))
  | .iload i => some (i, 2, fun v => match v with | .int _ => true | _ => false)
  | .iload_n k => some (k, 1, fun v => match v with | .int _ => true | _ => false)
  | .lload i => some (i, 2, fun v => match v with | .long _ => true | _ => false)
  | .lload_n k => some (k, 1, fun v => match v with | .long _ => true | _ => false)
  | .dload_n k => some (k, 1, fun v => match v with | .double _ => true | _ => false)
  | .aload i => some (i, 2, fun v => match v with | .ref _ => true | .null => true | _ => false)
  | .aload_n k => some (k, 1, fun v => match v with | .ref _ => true | .null => true | _ => false)
  | _ => none
def g_stor : Instr → Option (Nat × Nat × Bool × (Value → Bool))
  | .istore i => some (i, 2, false, fun v => match v with | .int _ => true | _ => false)
  | .istore_n k => some (k, 1, false, fun v => match v with | .int _ => true | _ => false)
  | .lstore i => some (i, 2, true, fun v => match v with | .long _ => true | _ => false)
  | .lstore_n k => some (k, 1, true, fun v => match v with | .long _ => true | _ => false)
  | .dstore_n k => some (k, 1, true, fun v => match v with | .double _ => true | _ => false)
  | .astore i => some (i, 2, false, fun v => match v with | .ref _ => true | .null => true | _ => false)
  | .astore_n k => some (k, 1, false, fun v => match v with | .ref _ => true | .null => true | _ => false)
  | _ => none
def g_con : Instr → Option (Nat × Value)
  | .iconst n => some (1, .int (Int32.ofInt n))
  | .bipush n => some (2, .int (Int8.ofInt n).toInt32)
  | .sipush n => some (3, .int (Int16.ofInt n).toInt32)
  | .lconst n => some (1, .long (Int64.ofNat (n : Nat)))
  | .aconst_null => some (1, .null)
  | _ => none
/-- constants out of the pool: entry, length, kind -/
def g_ldc : Instr → Option (Nat × Nat × Nat)
  | .ldc i => some (i, 2, 10)
  | .ldc_w i => some (i, 3, 10)
  | _ => none
def g_cv (kd : Nat) (v : Int) : Value := match kd with
  | 10 => .int (Int32.ofInt v)
  | 11 => .long (Int64.ofInt v)
  | _ => .double (UInt64.ofNat v.toNat)
/-- branches on an int against 0, on two ints -/
def g_c1 (x : Int32) : ClassFile.Cond → Bool
  | .eq => decide (x = 0)
  | .ne => decide (¬ x = 0)
  | .lt => decide (x < 0)
  | .ge => decide (0 ≤ x)
  | .gt => decide (0 < x)
  | .le => decide (x ≤ 0)
def g_c2 (x y : Int32) : ClassFile.Cond → Bool
  | .eq => decide (x = y)
  | .ne => decide (¬ x = y)
  | .lt => decide (x < y)
  | .ge => decide (y ≤ x)
  | .gt => decide (y < x)
  | .le => decide (x ≤ y)
abbrev g_get (h : g_H) (q : Nat) : Option (Nat × g_HC) := h[q]?
def g_sum (st : List Value) : Nat := (st.map fun v => v.category).sum
section G3
variable (CALL : Nat → List Value → g_H → Nat → Nat → (Option Value → g_H → Prop) → Prop) (o nL : Nat) (ini : Bool) (bc bs : Nat)
/-- consts, locals, stack -/
def g_doA (ins : Instr) (len pc : Nat) (L : g_L) (st : List Value) (w : g_W) (P : g_S → Prop) : Prop :=
  (∃ v, g_con ins = some (len, v) ∧ P (pc + len, L, v :: st, w))
  ∨ (∃ i t v, g_load ins = some (i, len, t) ∧ (i, v) ∈ L ∧ t v = true ∧ P (pc + len, L, v :: st, w))
  ∨ (∃ i t v rest, g_stor ins = some (i, len, false, t) ∧ st = v :: rest ∧ t v = true ∧ i < nL ∧ P (pc + len, g_st1 i v L, rest, w))
  ∨ (∃ i t v rest, g_stor ins = some (i, len, true, t) ∧ st = v :: rest ∧ t v = true ∧ i + 1 < nL ∧ P (pc + len, g_st2 i v L, rest, w))
  ∨ (∃ i n x, ins = .iinc i n ∧ (len = 3 ∨ len = 6) ∧ (i, Value.int x) ∈ L ∧ i < nL ∧ P (pc + len, g_st1 i (.int (x + Int32.ofInt n)) L, st, w))
  ∨ (∃ v rest, ins = .dup ∧ len = 1 ∧ st = v :: rest ∧ v.category = 1 ∧ P (pc + 1, L, v :: v :: rest, w))
  ∨ (∃ v rest, ins = .pop ∧ len = 1 ∧ st = v :: rest ∧ v.category = 1 ∧ P (pc + 1, L, rest, w))
  ∨ (∃ v u rest, ins = .dup_x1 ∧ len = 1 ∧ st = v :: u :: rest ∧ v.category = 1 ∧ u.category = 1 ∧ P (pc + 1, L, v :: u :: v :: rest, w))
  ∨ (∃ v u rest, ins = .dup2 ∧ len = 1 ∧ st = v :: u :: rest ∧ v.category = 1 ∧ u.category = 1 ∧ P (pc + 1, L, v :: u :: v :: u :: rest, w))
  ∨ (∃ v rest, ins = .dup2 ∧ len = 1 ∧ st = v :: rest ∧ v.category = 2 ∧ P (pc + 1, L, v :: v :: rest, w))
  ∨ (∃ i kd a0 b0 v ps, g_ldc ins = some (i, len, kd) ∧ (o, i, kd, a0, b0, v, ps) ∈ g_lk ∧ P (pc + len, L, g_cv kd v :: st, w))
  ∨ (∃ i kd a0 b0 v ps, ins = .ldc2_w i ∧ len = 3 ∧ (kd = 11 ∨ kd = 12) ∧ (o, i, kd, a0, b0, v, ps) ∈ g_lk ∧ P (pc + 3, L, g_cv kd v :: st, w))
/-- arithmetic -/
def g_doB (ins : Instr) (len pc : Nat) (L : g_L) (st : List Value) (w : g_W) (P : g_S → Prop) : Prop :=
  (∃ f x y rest, g_ib ins = some f ∧ len = 1 ∧ st = .int y :: .int x :: rest ∧ P (pc + 1, L, .int (f x y) :: rest, w))
  ∨ (∃ f x y rest, g_id ins = some f ∧ len = 1 ∧ ¬ y = 0 ∧ st = .int y :: .int x :: rest ∧ P (pc + 1, L, .int (f x y) :: rest, w))
  ∨ (∃ f x rest, g_iu ins = some f ∧ len = 1 ∧ st = .int x :: rest ∧ P (pc + 1, L, .int (f x) :: rest, w))
  ∨ (∃ f x y rest, g_lb ins = some f ∧ len = 1 ∧ st = .long y :: .long x :: rest ∧ P (pc + 1, L, .long (f x y) :: rest, w))
  ∨ (∃ f x y rest, g_ld ins = some f ∧ len = 1 ∧ ¬ y = 0 ∧ st = .long y :: .long x :: rest ∧ P (pc + 1, L, .long (f x y) :: rest, w))
  ∨ (∃ x rest, ins = .lneg ∧ len = 1 ∧ st = .long x :: rest ∧ P (pc + 1, L, .long (-x) :: rest, w))
  ∨ (∃ x y rest, ins = .lcmp ∧ len = 1 ∧ st = .long y :: .long x :: rest ∧ P (pc + 1, L, .int (lg_cmp x y) :: rest, w))
  ∨ (∃ x rest, ins = .i2l ∧ len = 1 ∧ st = .int x :: rest ∧ P (pc + 1, L, .long x.toInt64 :: rest, w))
  ∨ (∃ x rest, ins = .l2i ∧ len = 1 ∧ st = .long x :: rest ∧ P (pc + 1, L, .int x.toInt32 :: rest, w))
  ∨ (∃ x rest, ins = .i2d ∧ len = 1 ∧ st = .int x :: rest ∧ P (pc + 1, L, .double (FP.i2d x) :: rest, w))
  ∨ (∃ x y rest, ins = .ddiv ∧ len = 1 ∧ vf_n64 (FP.ddiv x y) ∧ st = .double y :: .double x :: rest ∧ P (pc + 1, L, .double (FP.ddiv x y) :: rest, w))
  ∨ (∃ x y rest, ins = .dmul ∧ len = 1 ∧ vf_n64 (FP.dmul x y) ∧ st = .double y :: .double x :: rest ∧ P (pc + 1, L, .double (FP.dmul x y) :: rest, w))
  ∨ (∃ op x y rest, ins = .dcmp op ∧ len = 1 ∧ st = .double y :: .double x :: rest ∧ P (pc + 1, L, .int (Op.cmpValue (FP.dcmp x y) op) :: rest, w))
/-- branches -/
def g_doC (ins : Instr) (len pc : Nat) (L : g_L) (st : List Value) (w : g_W) (P : g_S → Prop) : Prop :=
  (∃ off tgt, ins = .goto off ∧ len = 3 ∧ (pc : Int) + off = ((tgt : Nat) : Int) ∧ P (tgt, L, st, w))
  ∨ (∃ cd off tgt x rest, ins = .ifCond cd off ∧ len = 3 ∧ (pc : Int) + off = ((tgt : Nat) : Int) ∧ st = .int x :: rest ∧ P (if g_c1 x cd = true then tgt else pc + 3, L, rest, w))
  ∨ (∃ cd off tgt x y rest, ins = .if_icmp cd off ∧ len = 3 ∧ (pc : Int) + off = ((tgt : Nat) : Int) ∧ st = .int y :: .int x :: rest ∧ P (if g_c2 x y cd = true then tgt else pc + 3, L, rest, w))
  ∨ (∃ off tgt a rest, ins = .ifnull off ∧ len = 3 ∧ (pc : Int) + off = ((tgt : Nat) : Int) ∧ ((st = .null :: rest ∧ P (tgt, L, rest, w)) ∨ (st = .ref a :: rest ∧ P (pc + 3, L, rest, w))))
  ∨ (∃ off tgt a rest, ins = .ifnonnull off ∧ len = 3 ∧ (pc : Int) + off = ((tgt : Nat) : Int) ∧ ((st = .null :: rest ∧ P (pc + 3, L, rest, w)) ∨ (st = .ref a :: rest ∧ P (tgt, L, rest, w))))
  ∨ (∃ dflt lo hi offs x rest off tgt, ins = .tableswitch dflt lo hi offs ∧ st = .int x :: rest ∧ (pc : Int) + off = ((tgt : Nat) : Int) ∧ ((¬ x.toInt < lo ∧ ¬ hi < x.toInt ∧ offs[(x.toInt - lo).toNat]? = some off) ∨ ((x.toInt < lo ∨ hi < x.toInt) ∧ off = dflt)) ∧ P (tgt, L, rest, w))
/-- fields and arrays -/
def g_doD (ins : Instr) (len pc : Nat) (L : g_L) (st : List Value) (w : g_W) (P : g_S → Prop) : Prop :=
  (∃ i kd ci k v0 ps q a n f rest, ins = .getfield i ∧ len = 3 ∧ (kd = 0 ∨ kd = 1) ∧ (o, i, kd, ci, k, v0, ps) ∈ g_lk ∧ st = .ref a :: rest ∧ g_get w.2.2 q = some (a, false, ci, n, f) ∧ k < n ∧ P (pc + 3, L, f k :: rest, w))
  ∨ (∃ i kd ci k v0 ps q a n f v ty rest, ins = .putfield i ∧ len = 3 ∧ (kd = 0 ∨ kd = 1) ∧ (o, i, kd, ci, k, v0, ps) ∈ g_lk ∧ st = v :: .ref a :: rest ∧ g_get w.2.2 q = some (a, false, ci, n, f) ∧ k < n ∧ ((g_fd ci k).2 = false ∨ (kd = 0 ∧ ini = true ∧ o = ci)) ∧ parseFieldDescriptor (g_fd ci k).1 = some ty ∧ narrow ty v = v ∧ fits ty v = true ∧ P (pc + 3, L, rest, w.1, w.2.1, w.2.2.set q (a, false, ci, n, g_up f k v)))
  ∨ (∃ q a n f j rest, ins = .iaload ∧ len = 1 ∧ st = .int j :: .ref a :: rest ∧ g_get w.2.2 q = some (a, true, 0, n, f) ∧ vp_in j n ∧ P (pc + 1, L, .int (g_i (f j.toNatClampNeg)) :: rest, w))
  ∨ (∃ q a n f j rest, ins = .laload ∧ len = 1 ∧ st = .int j :: .ref a :: rest ∧ g_get w.2.2 q = some (a, true, 1, n, f) ∧ vp_in j n ∧ P (pc + 1, L, .long (g_l (f j.toNatClampNeg)) :: rest, w))
  ∨ (∃ q a t n f j rest, ins = .baload ∧ len = 1 ∧ st = .int j :: .ref a :: rest ∧ (t = 2 ∨ t = 3) ∧ g_get w.2.2 q = some (a, true, t, n, f) ∧ vp_in j n ∧ P (pc + 1, L, .int (g_i (f j.toNatClampNeg)) :: rest, w))
  ∨ (∃ q a n f j rest, ins = .aaload ∧ len = 1 ∧ st = .int j :: .ref a :: rest ∧ g_get w.2.2 q = some (a, true, 4, n, f) ∧ vp_in j n ∧ P (pc + 1, L, va_rf (g_r (f j.toNatClampNeg)) :: rest, w))
  ∨ (∃ q a n f j x rest, ins = .iastore ∧ len = 1 ∧ st = .int x :: .int j :: .ref a :: rest ∧ g_get w.2.2 q = some (a, true, 0, n, f) ∧ vp_in j n ∧ P (pc + 1, L, rest, w.1, w.2.1, w.2.2.set q (a, true, 0, n, g_up f j.toNatClampNeg (.int x))))
  ∨ (∃ q a n f j x rest, ins = .lastore ∧ len = 1 ∧ st = .long x :: .int j :: .ref a :: rest ∧ g_get w.2.2 q = some (a, true, 1, n, f) ∧ vp_in j n ∧ P (pc + 1, L, rest, w.1, w.2.1, w.2.2.set q (a, true, 1, n, g_up f j.toNatClampNeg (.long x))))
  ∨ (∃ q a n f j x rest, ins = .bastore ∧ len = 1 ∧ st = .int x :: .int j :: .ref a :: rest ∧ g_get w.2.2 q = some (a, true, 2, n, f) ∧ vp_in j n ∧ P (pc + 1, L, rest, w.1, w.2.1, w.2.2.set q (a, true, 2, n, g_up f j.toNatClampNeg (.int (vp_nar .boolean x)))))
  ∨ (∃ q a n f j x rest, ins = .bastore ∧ len = 1 ∧ st = .int x :: .int j :: .ref a :: rest ∧ g_get w.2.2 q = some (a, true, 3, n, f) ∧ vp_in j n ∧ P (pc + 1, L, rest, w.1, w.2.1, w.2.2.set q (a, true, 3, n, g_up f j.toNatClampNeg (.int (vp_nar .byte x)))))
  ∨ (∃ q a n f j v qk nk fk rest, ins = .aastore ∧ len = 1 ∧ st = .ref v :: .int j :: .ref a :: rest ∧ g_get w.2.2 q = some (a, true, 4, n, f) ∧ g_get w.2.2 qk = some (v, false, 1, nk, fk) ∧ vp_in j n ∧ P (pc + 1, L, rest, w.1, w.2.1, w.2.2.set q (a, true, 4, n, g_up f j.toNatClampNeg (.ref v))))
  ∨ (∃ q a t n f rest, ins = .arraylength ∧ len = 1 ∧ st = .ref a :: rest ∧ t < 5 ∧ g_get w.2.2 q = some (a, true, t, n, f) ∧ P (pc + 1, L, .int (Int32.ofNat n) :: rest, w))
  ∨ (∃ t x N rest, ins = .newarray (g_at t) ∧ len = 2 ∧ t < 4 ∧ st = .int x :: rest ∧ ¬ x < 0 ∧ x.toNatClampNeg = N ∧ N ≤ 65536 ∧ w.1 + 1 ≤ bc ∧ w.2.1 + N ≤ bs ∧ ∀ q : Nat, P (pc + 2, L, .ref q :: rest, w.1 + 1, w.2.1 + N, w.2.2 ++ [(q, true, t, N, fun _ => defaultValue (g_ty t))]))
  ∨ (∃ i ps x N rest b v, ins = .anewarray i ∧ len = 3 ∧ (o, i, 9, 1, b, v, ps) ∈ g_lk ∧ st = .int x :: rest ∧ ¬ x < 0 ∧ x.toNatClampNeg = N ∧ N ≤ 65536 ∧ w.1 + 1 ≤ bc ∧ w.2.1 + N ≤ bs ∧ ∀ q : Nat, P (pc + 3, L, .ref q :: rest, w.1 + 1, w.2.1 + N, w.2.2 ++ [(q, true, 4, N, fun _ => .null)]))
  ∨ (∃ i ci N v ps, ins = .new i ∧ len = 3 ∧ (o, i, 9, ci, N, v, ps) ∈ g_lk ∧ w.1 + 1 ≤ bc ∧ w.2.1 + N ≤ bs ∧ ∀ q : Nat, P (pc + 3, L, .ref q :: st, w.1 + 1, w.2.1 + N, w.2.2 ++ [(q, false, ci, N, fun j => defaultValue ((parseFieldDescriptor (g_fd ci j).1).getD .int))]))
/-- calls -/
def g_doE (ins : Instr) (len pc : Nat) (L : g_L) (st : List Value) (w : g_W) (P : g_S → Prop) : Prop :=
  (∃ i kd j n v ps As b rest q nf f mc ms, ins = .invokevirtual i ∧ len = 3 ∧ (kd = 2 ∨ kd = 3) ∧ (o, i, kd, j, n, v, ps) ∈ g_lk ∧ st = As.reverse ++ .ref b :: rest ∧ As.length = n ∧ g_get w.2.2 q = some (b, false, (g_me j).2.1, nf, f) ∧ g_sum rest ≤ 8 ∧ w.1 + mc ≤ bc ∧ w.2.1 + ms ≤ bs ∧ CALL j (.ref b :: As) w.2.2 mc ms (fun r h' => P (pc + 3, L, r.toList ++ rest, w.1 + mc, w.2.1 + ms, h')))
  ∨ (∃ i kd j n v ps As rest mc ms, ins = .invokestatic i ∧ len = 3 ∧ (kd = 4 ∨ kd = 5) ∧ (o, i, kd, j, n, v, ps) ∈ g_lk ∧ st = As.reverse ++ rest ∧ As.length = n ∧ g_sum rest ≤ 8 ∧ w.1 + mc ≤ bc ∧ w.2.1 + ms ≤ bs ∧ CALL j As w.2.2 mc ms (fun r h' => P (pc + 3, L, r.toList ++ rest, w.1 + mc, w.2.1 + ms, h')))
  ∨ (∃ i kd j n v ps As b rest mc ms, ins = .invokespecial i ∧ len = 3 ∧ (kd = 6 ∨ kd = 7) ∧ (o, i, kd, j, n, v, ps) ∈ g_lk ∧ st = As.reverse ++ .ref b :: rest ∧ As.length = n ∧ g_sum rest ≤ 8 ∧ w.1 + mc ≤ bc ∧ w.2.1 + ms ≤ bs ∧ CALL j (.ref b :: As) w.2.2 mc ms (fun r h' => P (pc + 3, L, r.toList ++ rest, w.1 + mc, w.2.1 + ms, h')))
  ∨ (∃ i a0 b0 v ps a rest, ins = .invokespecial i ∧ len = 3 ∧ (o, i, 8, a0, b0, v, ps) ∈ g_lk ∧ st = .ref a :: rest ∧ g_sum rest ≤ 8 ∧ P (pc + 3, L, rest, w))
def g_pre (cc : ByteArray) (P : g_S → Prop) (S : g_S) : Prop :=
  ∃ ins len, decode cc S.1 = .ok (ins, len) ∧ (g_doA o nL ins len S.1 S.2.1 S.2.2.1 S.2.2.2 P ∨ g_doB ins len S.1 S.2.1 S.2.2.1 S.2.2.2 P ∨ g_doC ins len S.1 S.2.1 S.2.2.1 S.2.2.2 P ∨ g_doD o ini bc bs ins len S.1 S.2.1 S.2.2.1 S.2.2.2 P ∨ g_doE CALL o bc bs ins len S.1 S.2.1 S.2.2.1 S.2.2.2 P)
/-- the least predicate that holds where post holds and one step ahead of itself -/
def g_WP (cc : ByteArray) (post : g_S → Prop) (S : g_S) : Prop := ∀ P : g_S → Prop, (∀ S, post S → P S) → (∀ S, g_pre CALL o nL ini bc bs cc P S → P S) → P S
end G3
/-- a method's end: at a return, with just its answer -/
def g_end (cc : ByteArray) (rt : Option FieldType) (bc bs : Nat) (post : Option Value → g_H → Prop) (S : g_S) : Prop :=
  S.2.2.2.1 ≤ bc ∧ S.2.2.2.2.1 ≤ bs ∧
  ((∃ v ty, decode cc S.1 = .ok (.ireturn, 1) ∧ rt = some ty ∧ narrow ty (.int v) = .int v ∧ S.2.2.1 = [.int v] ∧ post (some (.int v)) S.2.2.2.2.2)
  ∨ (∃ v, decode cc S.1 = .ok (.lreturn, 1) ∧ rt = some .long ∧ S.2.2.1 = [.long v] ∧ post (some (.long v)) S.2.2.2.2.2)
  ∨ (∃ v n, decode cc S.1 = .ok (.areturn, 1) ∧ rt = some (.object n) ∧ (v = .null ∨ ∃ a, v = .ref a) ∧ S.2.2.1 = [v] ∧ post (some v) S.2.2.2.2.2)
  ∨ (decode cc S.1 = .ok (.return_, 1) ∧ rt = none ∧ S.2.2.1 = [] ∧ post none S.2.2.2.2.2))
def g_run : Nat → Nat → List Value → g_H → Nat → Nat → (Option Value → g_H → Prop) → Prop
  | 0, _, _, _, _, _, _ => False
  | d + 1, j, args, h, mc, ms, post => j < g_mt.length ∧ (lg_sl args).length ≤ g_nl j ∧ g_WP (g_run d) (g_me j).2.1 (g_nl j) ((g_y j).name == "<init>") mc ms (g_by j) (g_end (g_by j) (g_rt j) mc ms post) (0, lv_args 0 args, [], 0, 0, h)
