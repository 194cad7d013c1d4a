-- a machine over numbers: every number is an integer told by a term, cells have fixed places, a run is a proposition
/-- a value: kind (0 int, 1 long, 2 a cell, 3 a cell or null, 4 null, 5 double), place of the cell, bounds, the number (of kind 3: the place, below 0: null) -/
abbrev xa_V : Type := Nat × Nat × Int × Int × Int
abbrev xa_L : Type := List (Nat × xa_V)
/-- the memory: place, index, number -/
abbrev xa_M : Type := Nat → Int → Int
/-- of a place: its role, and where its fields lead -/
abbrev xa_I : Type := Nat → Option (y_R1 × (Nat → Nat))
def xa_g (A : Nat → Nat) (v : xa_V) (x : Value) : Prop := match v with
  | (0, _, lo, hi, n) => ∃ m : Int32, x = .int m ∧ m.toInt = n ∧ lo ≤ n ∧ n ≤ hi
  | (1, _, lo, hi, n) => ∃ m : Int64, x = .long m ∧ m.toInt = n ∧ lo ≤ n ∧ n ≤ hi
  | (2, q, _) => x = .ref (A q)
  | (3, _, _, _, n) => x = (if n < 0 then .null else .ref (A n.toNat))
  | (4, _) => x = .null
  | (5, _, _, _, n) => ∃ m : UInt64, x = .double m ∧ (m.toNat : Int) = n
  | _ => False
def xa_cw (sp : y_V) (s : Nat) (m : Int) : xa_V := match sp with
  | (0, lo, hi, _) => (0, 0, lo, hi, m)
  | (1, lo, hi, _) => (1, 0, lo, hi, m)
  | (2, _) => (2, s, 0, 0, 0)
  | (3, _) => (3, 0, 0, 0, m)
  | _ => (9, 0, 0, 0, 0)
/-- what a place may hold: of an array with a limit what those behind it may hold -/
def xa_sp (ro : y_R1) (j : Nat) : y_V := bif ro.1 then (bif Nat.beq ro.2.2.2.1 0 then y_sp ro 0 else y_sp ro 1) else y_sp ro j
def xa_cv (ro : y_R1) (S : Nat → Nat) (m : Int → Int) (j : Nat) : xa_V := xa_cw (xa_sp ro j) (S j) (m (j : Int))
def xa_H (I : xa_I) (A : Nat → Nat) (M : xa_M) (h0 h : g_H) : Prop := h.length = h0.length ∧ (∀ q ro S, I q = some (ro, S) → ∃ f : Nat → Value, h[q]? = some (A q, ro.1, ro.2.1, ro.2.2.1, f) ∧ ∀ j, j < ro.2.2.1 → xa_g A (xa_cv ro S (M q) j) (f j)) ∧ ∀ q, I q = none → h[q]? = h0[q]?
def xa_gL (A : Nat → Nat) (L : xa_L) (Ls : g_L) : Prop := ∀ p ∈ L, ∃ x, (p.1, x) ∈ Ls ∧ xa_g A p.2 x
def xa_gS (A : Nat → Nat) : List xa_V → List Value → Prop
  | [], [] => True
  | v :: vs, x :: xs => xa_g A v x ∧ xa_gS A vs xs
  | _, _ => False
def xa_gR (A : Nat → Nat) (o : Option xa_V) (x : Option Value) : Prop := match o with
  | none => x = none
  | some v => ∃ y, x = some y ∧ xa_g A v y
def xa_up (M : xa_M) (q : Nat) (j v : Int) : xa_M := fun q' j' => if q' = q ∧ j' = j then v else M q' j'
def xa_if (b : Bool) (p : Prop) : Prop := bif b then p else False
def xa_ob (b : Bool) (c k : Prop) : Prop := bif b then k else c ∧ k
abbrev xa_K : Type := List s_I → xa_L → List xa_V → xa_M → Prop
abbrev xa_C0 : Type := Nat → List xa_V → xa_M → (Option xa_V → xa_M → Prop) → Prop
def xa_c2 (v : xa_V) : Bool := Nat.beq v.1 1 || Nat.beq v.1 5
def xa_find : xa_L → Nat → Option xa_V
  | [], _ => none
  | (j, v) :: t, i => bif Nat.beq j i then some v else xa_find t i
def xa_fil1 (i : Nat) : xa_L → xa_L
  | [] => []
  | (j, u) :: t => bif (Nat.beq j i || (Nat.beq (j + 1) i && xa_c2 u)) then xa_fil1 i t else (j, u) :: xa_fil1 i t
def xa_fil2 (i : Nat) : xa_L → xa_L
  | [] => []
  | (j, u) :: t => bif (Nat.beq j i || (Nat.beq j (i + 1) || (Nat.beq (j + 1) i && xa_c2 u))) then xa_fil2 i t else (j, u) :: xa_fil2 i t
def xa_tk (kd : Nat) (v : xa_V) : Bool := match kd with
  | 0 => Nat.beq v.1 0
  | 1 => Nat.beq v.1 1
  | _ => Nat.ble 2 v.1 && Nat.ble v.1 4
def xa_isI (v : xa_V) : Bool := Nat.beq v.1 0
def xa_isL (v : xa_V) : Bool := Nat.beq v.1 1
-- arithmetic
def xa_w32 (n : Int) : Int := n.bmod 4294967296
def xa_w64 (n : Int) : Int := n.bmod 18446744073709551616
def xa_mk32 (lo hi n : Int) : xa_V := bif y_in32 lo hi then (0, 0, lo, hi, n) else (0, 0, -2147483648, 2147483647, xa_w32 n)
def xa_mk64 (lo hi n : Int) : xa_V := bif y_in64 lo hi then (1, 0, lo, hi, n) else (1, 0, -9223372036854775808, 9223372036854775807, xa_w64 n)
/-- the other operations on ints, by the machine's own words -/
def xa_ib (a : Nat) (x y : Int) : Int := (s_fib a (Int32.ofInt x) (Int32.ofInt y)).toInt
def xa_mlo (a b c d : Int) : Int := s_min (s_min (a * c) (a * d)) (s_min (b * c) (b * d))
def xa_mhi (a b c d : Int) : Int := s_max (s_max (a * c) (a * d)) (s_max (b * c) (b * d))
def xa_bin32 (a : Nat) (x y : xa_V) : xa_V := match a with
  | 0 => xa_mk32 (x.2.2.1 + y.2.2.1) (x.2.2.2.1 + y.2.2.2.1) (x.2.2.2.2 + y.2.2.2.2)
  | 1 => xa_mk32 (x.2.2.1 - y.2.2.2.1) (x.2.2.2.1 - y.2.2.1) (x.2.2.2.2 - y.2.2.2.2)
  | 2 => xa_mk32 (xa_mlo x.2.2.1 x.2.2.2.1 y.2.2.1 y.2.2.2.1) (xa_mhi x.2.2.1 x.2.2.2.1 y.2.2.1 y.2.2.2.1) (x.2.2.2.2 * y.2.2.2.2)
  | a + 3 => (0, 0, -2147483648, 2147483647, xa_ib (a + 3) x.2.2.2.2 y.2.2.2.2)
def xa_bin64 (a : Nat) (x y : xa_V) : xa_V := match a with
  | 0 => xa_mk64 (x.2.2.1 + y.2.2.1) (x.2.2.2.1 + y.2.2.2.1) (x.2.2.2.2 + y.2.2.2.2)
  | 1 => xa_mk64 (x.2.2.1 - y.2.2.2.1) (x.2.2.2.1 - y.2.2.1) (x.2.2.2.2 - y.2.2.2.2)
  | _ => xa_mk64 (xa_mlo x.2.2.1 x.2.2.2.1 y.2.2.1 y.2.2.2.1) (xa_mhi x.2.2.1 x.2.2.2.1 y.2.2.1 y.2.2.2.1) (x.2.2.2.2 * y.2.2.2.2)
/-- quotients and rests by a number above 0: of numbers that are not below 0; of any -/
def xa_div32 (a : Nat) (x y : xa_V) : xa_V := bif decide (0 ≤ x.2.2.1) then (bif Nat.beq a 0 then (0, 0, 0, x.2.2.2.1, x.2.2.2.2 / y.2.2.2.2) else (0, 0, 0, y.2.2.2.1 - 1, x.2.2.2.2 % y.2.2.2.2)) else (bif Nat.beq a 0 then (0, 0, -2147483648, 2147483647, x.2.2.2.2.tdiv y.2.2.2.2) else (0, 0, -2147483648, 2147483647, x.2.2.2.2.tmod y.2.2.2.2))
def xa_div64 (a : Nat) (x y : xa_V) : xa_V := bif decide (0 ≤ x.2.2.1) then (bif Nat.beq a 0 then (1, 0, 0, x.2.2.2.1, x.2.2.2.2 / y.2.2.2.2) else (1, 0, 0, y.2.2.2.1 - 1, x.2.2.2.2 % y.2.2.2.2)) else (bif Nat.beq a 0 then (1, 0, -9223372036854775808, 9223372036854775807, x.2.2.2.2.tdiv y.2.2.2.2) else (1, 0, -9223372036854775808, 9223372036854775807, x.2.2.2.2.tmod y.2.2.2.2))
def xa_i8 (n : Int) : Int := ((Int32.ofInt n).toInt8.toInt32).toInt
def xa_i16 (n : Int) : Int := ((Int32.ofInt n).toInt16.toInt32).toInt
def xa_cd (cd : Nat) (x y : Int) : Prop := match cd with
  | 0 => x = y
  | 1 => ¬ x = y
  | 2 => x < y
  | 3 => y ≤ x
  | 4 => y < x
  | _ => x ≤ y
/-- what bounds decide: 1 it holds, 2 it doesn't -/
def xa_dc (cd : Nat) (a b c d : Int) : Nat := match cd with
  | 0 => bif decide (b < c) || decide (d < a) then 2 else bif decide (a = b) && (decide (c = d) && decide (a = c)) then 1 else 0
  | 1 => bif decide (b < c) || decide (d < a) then 1 else bif decide (a = b) && (decide (c = d) && decide (a = c)) then 2 else 0
  | 2 => bif decide (b < c) then 1 else bif decide (d ≤ a) then 2 else 0
  | 3 => bif decide (d ≤ a) then 1 else bif decide (b < c) then 2 else 0
  | 4 => bif decide (d < a) then 1 else bif decide (b ≤ c) then 2 else 0
  | _ => bif decide (b ≤ c) then 1 else bif decide (d < a) then 2 else 0
-- steps
section XA1
variable (I : xa_I) (ft : s_FT) (mi : List s_MI) (C : xa_C0) (full : List s_I) (nL : Nat) (next : xa_K)
def xa_q0 (t : List s_I) (L : xa_L) (st : List xa_V) (M : xa_M) (a : Nat) (v : Int) : Prop := match a with
  | 0 => xa_if (y_in32 v v) (next t L ((0, 0, v, v, v) :: st) M)
  | 1 => xa_if (y_in64 v v) (next t L ((1, 0, v, v, v) :: st) M)
  | 4 => next t L ((4, 0, 0, 0, 0) :: st) M
  | _ => False
def xa_q1 (t : List s_I) (L : xa_L) (st : List xa_V) (M : xa_M) (a b : Nat) : Prop := match xa_find L a with
  | some v => xa_if (xa_tk b v) (next t L (v :: st) M)
  | none => False
def xa_q2 (t : List s_I) (L : xa_L) (st : List xa_V) (M : xa_M) (a b : Nat) : Prop := match st with
  | v :: rest => xa_if (xa_tk b v && (Nat.blt a nL && !xa_c2 v)) (next t ((a, v) :: xa_fil1 a L) rest M)
  | [] => False
def xa_q3 (t : List s_I) (L : xa_L) (st : List xa_V) (M : xa_M) (a b : Nat) : Prop := match st with
  | v :: rest => xa_if (xa_tk b v && (Nat.blt (a + 1) nL && xa_c2 v)) (next t ((a, v) :: xa_fil2 a L) rest M)
  | [] => False
def xa_q4 (t : List s_I) (L : xa_L) (st : List xa_V) (M : xa_M) (a : Nat) (n : Int) : Prop := match xa_find L a with
  | some u => xa_if (Nat.beq u.1 0 && (Nat.blt a nL && y_in32 n n)) (next t ((a, xa_bin32 0 u (0, 0, n, n, n)) :: xa_fil1 a L) st M)
  | none => False
def xa_q5 (t : List s_I) (L : xa_L) (st : List xa_V) (M : xa_M) : Prop := match st with
  | v :: rest => xa_if (!xa_c2 v) (next t L (v :: v :: rest) M)
  | [] => False
def xa_q6 (t : List s_I) (L : xa_L) (st : List xa_V) (M : xa_M) : Prop := match st with
  | v :: rest => xa_if (!xa_c2 v) (next t L rest M)
  | [] => False
def xa_q7 (t : List s_I) (L : xa_L) (st : List xa_V) (M : xa_M) : Prop := match st with
  | v :: u :: rest => xa_if (!xa_c2 v && !xa_c2 u) (next t L (v :: u :: v :: rest) M)
  | _ => False
def xa_q8 (t : List s_I) (L : xa_L) (st : List xa_V) (M : xa_M) : Prop := match st with
  | v :: u :: rest => bif xa_c2 v then next t L (v :: v :: u :: rest) M else xa_if (!xa_c2 u) (next t L (v :: u :: v :: u :: rest) M)
  | _ => False
def xa_q11 (t : List s_I) (L : xa_L) (st : List xa_V) (M : xa_M) (a : Nat) : Prop := match st with
  | y :: x :: rest => xa_if (xa_isI x && xa_isI y) (next t L (xa_bin32 a x y :: rest) M)
  | _ => False
def xa_q12 (t : List s_I) (L : xa_L) (st : List xa_V) (M : xa_M) (a : Nat) : Prop := match st with
  | y :: x :: rest => xa_if (xa_isI x && xa_isI y) (xa_ob (decide (0 < y.2.2.1)) (0 < y.2.2.2.2) (next t L (xa_div32 a x y :: rest) M))
  | _ => False
def xa_q13 (t : List s_I) (L : xa_L) (st : List xa_V) (M : xa_M) (a : Nat) : Prop := match st with
  | x :: rest => xa_if (xa_isI x) (match a with
    | 0 => xa_if (decide (-2147483648 < x.2.2.1)) (next t L ((0, 0, -x.2.2.2.1, -x.2.2.1, -x.2.2.2.2) :: rest) M)
    | 1 => next t L ((0, 0, -128, 127, xa_i8 x.2.2.2.2) :: rest) M
    | _ => next t L ((0, 0, -32768, 32767, xa_i16 x.2.2.2.2) :: rest) M)
  | _ => False
def xa_q14 (t : List s_I) (L : xa_L) (st : List xa_V) (M : xa_M) (a : Nat) : Prop := match st with
  | y :: x :: rest => xa_if (xa_isL x && xa_isL y) (next t L (xa_bin64 a x y :: rest) M)
  | _ => False
def xa_q15 (t : List s_I) (L : xa_L) (st : List xa_V) (M : xa_M) (a : Nat) : Prop := match st with
  | y :: x :: rest => xa_if (xa_isL x && xa_isL y) (xa_ob (decide (0 < y.2.2.1)) (0 < y.2.2.2.2) (next t L (xa_div64 a x y :: rest) M))
  | _ => False
def xa_q16 (t : List s_I) (L : xa_L) (st : List xa_V) (M : xa_M) : Prop := match st with
  | x :: rest => xa_if (xa_isL x) (bif decide (-9223372036854775808 < x.2.2.1) then next t L ((1, 0, -x.2.2.2.1, -x.2.2.1, -x.2.2.2.2) :: rest) M else next t L ((1, 0, -9223372036854775808, 9223372036854775807, xa_w64 (-x.2.2.2.2)) :: rest) M)
  | _ => False
def xa_q17 (t : List s_I) (L : xa_L) (st : List xa_V) (M : xa_M) : Prop := match st with
  | x :: rest => xa_if (xa_isI x) (next t L ((1, 0, x.2.2.1, x.2.2.2.1, x.2.2.2.2) :: rest) M)
  | _ => False
def xa_q18 (t : List s_I) (L : xa_L) (st : List xa_V) (M : xa_M) : Prop := match st with
  | x :: rest => xa_if (xa_isL x) (next t L (xa_mk32 x.2.2.1 x.2.2.2.1 x.2.2.2.2 :: rest) M)
  | _ => False
def xa_jp (pc : Nat) (L : xa_L) (st : List xa_V) (M : xa_M) : Prop := match s_jump full pc with
  | some c => next c L st M
  | none => False
def xa_br (r : s_I) (t : List s_I) (tgt cd : Nat) (x y : xa_V) (L : xa_L) (rest : List xa_V) (M : xa_M) : Prop := match xa_dc cd x.2.2.1 x.2.2.2.1 y.2.2.1 y.2.2.2.1 with
  | 1 => xa_jp full next tgt L rest M
  | 2 => xa_if (s_go r t) (next t L rest M)
  | _ => (xa_cd cd x.2.2.2.2 y.2.2.2.2 → xa_jp full next tgt L rest M) ∧ (xa_cd (y_neg cd) x.2.2.2.2 y.2.2.2.2 → xa_if (s_go r t) (next t L rest M))
def xa_q19 (t : List s_I) (L : xa_L) (st : List xa_V) (M : xa_M) : Prop := match st with
  | y :: x :: rest => match t with
    | (pc, len, q, kd, a, b, v, ins) :: t' => xa_if (xa_isL x && (xa_isL y && Nat.beq q 21)) (xa_br full next (pc, len, q, kd, a, b, v, ins) t' a b x y L rest M)
    | [] => False
  | _ => False
def xa_q21 (r : s_I) (t : List s_I) (L : xa_L) (st : List xa_V) (M : xa_M) (a b : Nat) : Prop := match st with
  | x :: rest => xa_if (xa_isI x) (xa_br full next r t a b x (0, 0, 0, 0, 0) L rest M)
  | _ => False
def xa_q22 (r : s_I) (t : List s_I) (L : xa_L) (st : List xa_V) (M : xa_M) (a b : Nat) : Prop := match st with
  | y :: x :: rest => xa_if (xa_isI x && xa_isI y) (xa_br full next r t a b x y L rest M)
  | _ => False
/-- is it null -/
def xa_q23 (r : s_I) (t : List s_I) (L : xa_L) (st : List xa_V) (M : xa_M) (a : Nat) (nn : Bool) : Prop := match st with
  | x :: rest => match x.1 with
    | 2 => bif nn then xa_jp full next a L rest M else xa_if (s_go r t) (next t L rest M)
    | 4 => bif nn then xa_if (s_go r t) (next t L rest M) else xa_jp full next a L rest M
    | 3 => bif nn then (0 ≤ x.2.2.2.2 → xa_jp full next a L rest M) ∧ (x.2.2.2.2 < 0 → xa_if (s_go r t) (next t L rest M)) else (x.2.2.2.2 < 0 → xa_jp full next a L rest M) ∧ (0 ≤ x.2.2.2.2 → xa_if (s_go r t) (next t L rest M))
    | _ => False
  | _ => False
def xa_swt (pc : Nat) (L : xa_L) (rest : List xa_V) (M : xa_M) (x : Int) : Int → List Int → Prop
  | _, [] => True
  | i, off :: os => (x = i → match s_tgt pc off with
    | some p => xa_jp full next p L rest M
    | none => False) ∧ xa_swt pc L rest M x (i + 1) os
def xa_q25 (pc : Nat) (L : xa_L) (st : List xa_V) (M : xa_M) (ins : Instr) : Prop := match ins with
  | .tableswitch dflt lo hi offs => match st with
    | x :: rest => xa_if (xa_isI x && decide ((hi - lo + 1).toNat ≤ offs.size)) ((x.2.2.2.2 < lo ∨ hi < x.2.2.2.2 → match s_tgt pc dflt with
      | some p => xa_jp full next p L rest M
      | none => False) ∧ xa_swt full next pc L rest M x.2.2.2.2 lo offs.toList)
    | _ => False
  | _ => False
def xa_ro (u : xa_V) : Option (Nat × y_R1 × (Nat → Nat)) := match u with
  | (2, q, _) => match I q with
    | some p => some (q, p)
    | none => none
  | (3, _, _, _, n) => match n with
    | .ofNat q => match I q with
      | some p => some (q, p)
      | none => none
    | .negSucc _ => none
  | _ => none
def xa_q26 (t : List s_I) (L : xa_L) (st : List xa_V) (M : xa_M) (kd a b : Nat) : Prop := match st with
  | u :: rest => match xa_ro I u with
    | some (q, ro, S) => xa_if (Nat.ble kd 1 && (!ro.1 && (Nat.beq ro.2.1 a && Nat.blt b ro.2.2.1))) (next t L (xa_cv ro S (M q) b :: rest) M)
    | none => False
  | _ => False
def xa_fty (ty : Nat) (v : xa_V) (sp : y_V) : Bool := match ty with
  | 0 => Nat.beq v.1 0 && Nat.beq sp.1 0
  | 1 => Nat.beq v.1 1 && Nat.beq sp.1 1
  | 2 => Nat.beq v.1 0 && (Nat.beq sp.1 0 && (decide (0 ≤ sp.2.1) && decide (sp.2.2.1 ≤ 1)))
  | _ => false
def xa_q27 (t : List s_I) (L : xa_L) (st : List xa_V) (M : xa_M) (kd a b : Nat) : Prop := match st with
  | v :: u :: rest => match xa_ro I u with
    | some (q, ro, _) => match (ft.getD a []).getD b (9, true) with
      | (ty, fin) => xa_if (Nat.ble kd 1 && (!ro.1 && (Nat.beq ro.2.1 a && (Nat.blt b ro.2.2.1 && (xa_fty ty v (xa_sp ro b) && !fin))))) (xa_ob (decide ((xa_sp ro b).2.1 ≤ v.2.2.1) && decide (v.2.2.2.1 ≤ (xa_sp ro b).2.2.1)) ((xa_sp ro b).2.1 ≤ v.2.2.2.2 ∧ v.2.2.2.2 ≤ (xa_sp ro b).2.2.1) (next t L rest (xa_up M q (b : Int) v.2.2.2.2)))
    | none => False
  | _ => False
def xa_q28 (t : List s_I) (L : xa_L) (st : List xa_V) (M : xa_M) : Prop := match st with
  | u :: rest => match xa_ro I u with
    | some (_, ro, _) => xa_if (ro.1 && (Nat.blt ro.2.1 5 && Nat.ble ro.2.2.1 2147483647)) (next t L ((0, 0, (ro.2.2.1 : Int), (ro.2.2.1 : Int), (ro.2.2.1 : Int)) :: rest) M)
    | none => False
  | _ => False
def xa_q32 (t : List s_I) (L : xa_L) (st : List xa_V) (M : xa_M) (a : Nat) : Prop := match st with
  | j :: u :: rest => match xa_ro I u with
    | some (q, ro, _) => xa_if (ro.1 && (s_akd a ro.2.1 && (xa_isI j && y_ael ro.2.1 (xa_sp ro 0)))) (xa_ob (decide (0 ≤ j.2.2.1) && decide (j.2.2.2.1 < (ro.2.2.1 : Int))) (0 ≤ j.2.2.2.2 ∧ j.2.2.2.2 < (ro.2.2.1 : Int)) (next t L (xa_cw (xa_sp ro 0) 0 (M q j.2.2.2.2) :: rest) M))
    | none => False
  | _ => False
def xa_q33 (t : List s_I) (L : xa_L) (st : List xa_V) (M : xa_M) (a : Nat) : Prop := match st with
  | v :: j :: u :: rest => match xa_ro I u with
    | some (q, ro, _) => xa_if (ro.1 && (s_akd a ro.2.1 && (Nat.blt ro.2.1 4 && (xa_isI j && (y_ael ro.2.1 (xa_sp ro 0) && Nat.beq v.1 (xa_sp ro 0).1))))) (xa_ob (decide (0 ≤ j.2.2.1) && decide (j.2.2.2.1 < (ro.2.2.1 : Int))) (0 ≤ j.2.2.2.2 ∧ j.2.2.2.2 < (ro.2.2.1 : Int)) (xa_ob (decide ((xa_sp ro 0).2.1 ≤ v.2.2.1) && decide (v.2.2.2.1 ≤ (xa_sp ro 0).2.2.1)) ((xa_sp ro 0).2.1 ≤ v.2.2.2.2 ∧ v.2.2.2.2 ≤ (xa_sp ro 0).2.2.1) (next t L rest (xa_up M q j.2.2.2.2 v.2.2.2.2))))
    | none => False
  | _ => False
def xa_tkn : Nat → List xa_V → List xa_V → Option (List xa_V × List xa_V)
  | 0, st, acc => some (acc, st)
  | n + 1, v :: st, acc => xa_tkn n st (v :: acc)
  | _ + 1, [], _ => none
def xa_sum : List xa_V → Nat
  | [] => 0
  | v :: vs => (bif xa_c2 v then 2 else 1) + xa_sum vs
def xa_rst (o : Option xa_V) (rest : List xa_V) : List xa_V := match o with
  | some v => v :: rest
  | none => rest
def xa_q35 (t : List s_I) (L : xa_L) (st : List xa_V) (M : xa_M) (kd a b : Nat) : Prop := match xa_tkn b st [] with
  | some (as, rest) => xa_if ((Nat.beq kd 4 || Nat.beq kd 5) && Nat.ble (xa_sum rest) 8) (C a as M (fun r M' => next t L (xa_rst r rest) M'))
  | none => False
def xa_q34 (t : List s_I) (L : xa_L) (st : List xa_V) (M : xa_M) (kd a b : Nat) : Prop := match xa_tkn b st [] with
  | some (as, rest) => match rest with
    | u :: rest => match xa_ro I u with
      | some (_, ro, _) => match mi[a]? with
        | some Q => xa_if ((Nat.beq kd 2 || Nat.beq kd 3) && (!ro.1 && (Nat.beq ro.2.1 Q.2.2.2.2.2 && Nat.ble (xa_sum rest) 8))) (C a (u :: as) M (fun r M' => next t L (xa_rst r rest) M'))
        | none => False
      | none => False
    | [] => False
  | none => False
/-- the step, ends apart -/
def xa_do (r : s_I) (t : List s_I) (L : xa_L) (st : List xa_V) (M : xa_M) : Prop := match r with
  | (_, _, q, kd, a, b, v, ins) =>
    bif Nat.blt q 19 then
      xa_if (s_go r t) (
        bif Nat.blt q 5 then
          bif Nat.blt q 2 then (bif Nat.beq q 0 then xa_q0 next t L st M a v else xa_q1 next t L st M a b)
          else bif Nat.blt q 4 then (bif Nat.beq q 2 then xa_q2 nL next t L st M a b else xa_q3 nL next t L st M a b)
          else xa_q4 nL next t L st M a v
        else bif Nat.blt q 11 then
          bif Nat.blt q 7 then (bif Nat.beq q 5 then xa_q5 next t L st M else xa_q6 next t L st M)
          else bif Nat.blt q 9 then (bif Nat.beq q 7 then xa_q7 next t L st M else xa_q8 next t L st M)
          else bif Nat.beq q 9 then xa_if (Nat.beq kd 10 && y_in32 v v) (next t L ((0, 0, v, v, v) :: st) M)
          else xa_if (Nat.beq kd 11 && y_in64 v v) (next t L ((1, 0, v, v, v) :: st) M)
        else bif Nat.blt q 16 then
          bif Nat.blt q 13 then (bif Nat.beq q 11 then xa_q11 next t L st M a else xa_q12 next t L st M a)
          else bif Nat.beq q 13 then xa_q13 next t L st M a
          else bif Nat.beq q 14 then xa_q14 next t L st M a else xa_q15 next t L st M a
        else bif Nat.beq q 16 then xa_q16 next t L st M else bif Nat.beq q 17 then xa_q17 next t L st M else xa_q18 next t L st M)
    else bif Nat.blt q 25 then
      bif Nat.beq q 19 then xa_if (s_go r t) (xa_q19 full next t L st M)
      else bif Nat.beq q 20 then xa_jp full next a L st M
      else bif Nat.beq q 21 then xa_q21 full next r t L st M a b
      else bif Nat.beq q 22 then xa_q22 full next r t L st M a b
      else xa_q23 full next r t L st M a (Nat.beq q 24)
    else bif Nat.beq q 25 then xa_q25 full next r.1 L st M ins
    else xa_if (s_go r t) (
      bif Nat.beq q 26 then xa_q26 I next t L st M kd a b
      else bif Nat.beq q 27 then xa_q27 I ft next t L st M kd a b
      else bif Nat.beq q 28 then xa_q28 I next t L st M
      else bif Nat.beq q 32 then xa_q32 I next t L st M a
      else bif Nat.beq q 33 then xa_q33 I next t L st M a
      else bif Nat.beq q 34 then xa_q34 I mi C next t L st M kd a b
      else bif Nat.beq q 35 then xa_q35 C next t L st M kd a b else False)
end XA1
/-- an end: the answer -/
def xa_rt (rt q : Nat) (RT : Option xa_V → xa_M → Prop) (st : List xa_V) (M : xa_M) : Prop := match st with
  | [] => xa_if (Nat.beq q 43 && Nat.beq rt 0) (RT none M)
  | [v] => bif Nat.beq q 40 && Nat.beq v.1 0 then (bif Nat.beq rt 1 then RT (some v) M else xa_if (Nat.beq rt 2) (xa_ob (decide (0 ≤ v.2.2.1) && decide (v.2.2.2.1 ≤ 1)) (0 ≤ v.2.2.2.2 ∧ v.2.2.2.2 ≤ 1) (RT (some v) M)))
    else bif Nat.beq q 41 && (Nat.beq rt 3 && Nat.beq v.1 1) then RT (some v) M
    else xa_if (Nat.beq q 42 && (Nat.beq rt 4 && (Nat.ble 2 v.1 && Nat.ble v.1 4))) (RT (some v) M)
  | _ => False
/-- a run up to one of the places -/
def xa_wp (I : xa_I) (ft : s_FT) (mi : List s_MI) (C : xa_C0) (RT : Option xa_V → xa_M → Prop) (Q : Nat → xa_L → List xa_V → xa_M → Prop) (cuts : List Nat) (full : List s_I) (nL rt : Nat) : Nat → xa_K
  | 0, _, _, _, _ => False
  | n + 1, code, L, st, M => match code with
    | [] => False
    | r :: t => bif Nat.ble 40 r.2.2.1 then xa_rt rt r.2.2.1 RT st M
      else xa_do I ft mi C full nL (fun c L st M => bif y_isn (s_pc c) cuts then Q (s_pc c) L st M else xa_wp I ft mi C RT Q cuts full nL rt n c L st M) r t L st M
