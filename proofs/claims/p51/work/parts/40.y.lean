-- a machine over kinds and bounds: every cell has a role that never changes, numbers have bounds, loops have counters
/-- kind (0 int, 1 long, 2 a cell of a role, 3 one or null, 4 null), bounds (of a cell: its role), the number of a name that it is equal to but for a difference, of one that it doesn't pass by more than another -/
abbrev y_Q : Type := Nat × Int × Nat × Int
abbrev y_V : Type := Nat × Int × Int × y_Q
/-- on the stack: of which local (plus one) it is a copy -/
abbrev y_T : Type := y_V × Nat
abbrev y_L : Type := List (Nat × y_V)
/-- of a role: array or object, its kind, its length, what its places hold (an array: those ahead of the number that a name (0: none) stands for, then the others) -/
abbrev y_R1 : Type := Bool × Nat × Nat × Nat × List y_V
/-- the roles, and the names of fields: a name from 200000 on, the role, the field -/
abbrev y_R : Type := List y_R1 × List (Nat × Nat × Nat)
/-- a world: address and role of each cell -/
abbrev y_W : Type := List (Nat × Nat)
abbrev y_X : Type := List s_I × y_L × List y_T
def y_rl (β : Nat → Int) (r : y_Q) (n : Int) : Prop := (r.1 ≠ 0 → n = β r.1 + r.2.1) ∧ (r.2.2.1 ≠ 0 → n ≤ β r.2.2.1 + r.2.2.2)
def y_g (W : y_W) (β : Nat → Int) (v : y_V) (x : Value) : Prop := match v with
  | (0, lo, hi, r) => ∃ n : Int32, x = .int n ∧ lo ≤ n.toInt ∧ n.toInt ≤ hi ∧ y_rl β r n.toInt
  | (1, lo, hi, r) => ∃ n : Int64, x = .long n ∧ lo ≤ n.toInt ∧ n.toInt ≤ hi ∧ y_rl β r n.toInt
  | (2, r, _) => ∃ q a : Nat, x = .ref a ∧ W[q]? = some (a, r.toNat)
  | (3, r, _) => x = .null ∨ ∃ q a : Nat, x = .ref a ∧ W[q]? = some (a, r.toNat)
  | (4, _) => x = .null
  | _ => False
def y_no : y_V := (9, 0, 0, 0, 0, 0, 0)
def y_sp (ro : y_R1) (j : Nat) : y_V := ro.2.2.2.2.getD j y_no
/-- what a place holds -/
def y_spj (β : Nat → Int) (ro : y_R1) (j : Nat) : y_V := if ro.1 = true then (if ro.2.2.2.1 = 0 ∨ (j : Int) < β ro.2.2.2.1 then y_sp ro 0 else y_sp ro 1) else y_sp ro j
/-- a value of a local (below 200000), or what a name stands for -/
def y_at (β : Nat → Int) (Ls : g_L) (i : Nat) (x : Value) : Prop := (i < 200000 → (i, x) ∈ Ls) ∧ (200000 ≤ i → ∃ n : Int32, x = .int n ∧ n.toInt = β i)
/-- an array that may be read, not written: its role has a third word -/
def y_rov (ro : y_R1) : Bool := match ro with
  | (true, _, _, _, _ :: _ :: _ :: _) => true
  | _ => false
theorem y_rov_o {ro : y_R1} (h : ro.1 = false) : y_rov ro = false := by
  obtain ⟨b, k, n, l, s⟩ := ro
  cases h
  rfl
/-- a place holds what its role says; of a role that says nothing (a frozen one) what φ says -/
def y_hp (φ : Nat → Nat → Value) (W : y_W) (β : Nat → Int) (q : Nat) (ro : y_R1) (j : Nat) (x : Value) : Prop := (ro.2.2.2.2 = [] ∧ x = φ q j) ∨ (y_g W β (y_spj β ro j) x ∧ (y_rov ro = true → x = φ q j))
def y_H (φ : Nat → Nat → Value) (R : y_R) (W : y_W) (β : Nat → Int) (h : g_H) : Prop := h.length = W.length ∧ (∀ q a r : Nat, W[q]? = some (a, r) → ∃ (ro : y_R1) (f : Nat → Value), R.1[r]? = some ro ∧ h[q]? = some (a, ro.1, ro.2.1, ro.2.2.1, f) ∧ ∀ j, j < ro.2.2.1 → y_hp φ W β q ro j (f j)) ∧
  ∀ p ∈ R.2, (∀ q q' a a' : Nat, W[q]? = some (a, p.2.1) → W[q']? = some (a', p.2.1) → q = q') ∧ ∃ (q a : Nat) (ro : y_R1) (f : Nat → Value) (n : Int32), W[q]? = some (a, p.2.1) ∧ R.1[p.2.1]? = some ro ∧ h[q]? = some (a, ro.1, ro.2.1, ro.2.2.1, f) ∧ f p.2.2 = .int n ∧ n.toInt = β p.1
def y_gL (W : y_W) (β : Nat → Int) (L : y_L) (Ls : g_L) : Prop := ∀ q ∈ L, ∃ x, y_at β Ls q.1 x ∧ y_g W β q.2 x
def y_gS (W : y_W) (β : Nat → Int) (Ls : g_L) : List y_T → List Value → Prop
  | [], [] => True
  | t :: ts, x :: xs => (y_g W β t.1 x ∧ (t.2 ≠ 0 → y_at β Ls (t.2 - 1) x)) ∧ y_gS W β Ls ts xs
  | _, _ => False
-- forcing
def y_fv {α : Type} (v : y_V) (k : y_V → α) : α := match v with
  | (t, lo, hi, n, c, m, d) => s_fn t (fun t => s_fi lo (fun lo => s_fi hi (fun hi => s_fn n (fun n => s_fi c (fun c => s_fn m (fun m => s_fi d (fun d => k (t, lo, hi, n, c, m, d))))))))
theorem y_fv_eq {α : Type} (v : y_V) (k : y_V → α) : y_fv v k = k v := by
  obtain ⟨t, lo, hi, n, c, m, d⟩ := v
  simp [y_fv, s_fi_eq, s_fn_eq]
def y_c2 (v : y_V) : Bool := Nat.beq v.1 1
def y_find : y_L → Nat → Option y_V
  | [], _ => none
  | (j, v) :: t, i => bif Nat.beq j i then some v else y_find t i
def y_fil1 {α : Type} (i : Nat) : y_L → (y_L → α) → α
  | [], k => k []
  | (j, u) :: t, k => bif (Nat.beq j i || (Nat.beq (j + 1) i && y_c2 u)) then y_fil1 i t k else y_fil1 i t (fun t' => k ((j, u) :: t'))
def y_fil2 {α : Type} (i : Nat) : y_L → (y_L → α) → α
  | [], k => k []
  | (j, u) :: t, k => bif (Nat.beq j i || (Nat.beq j (i + 1) || (Nat.beq (j + 1) i && y_c2 u))) then y_fil2 i t k else y_fil2 i t (fun t' => k ((j, u) :: t'))
def y_clr {α : Type} : List y_T → (List y_T → α) → α
  | [], k => k []
  | t :: ts, k => y_clr ts (fun ts' => k ((t.1, 0) :: ts'))
/-- another value at a place that is there -/
def y_upd {α : Type} (i : Nat) (v : y_V) : y_L → (y_L → α) → α
  | [], k => k []
  | (j, u) :: t, k => bif Nat.beq j i then y_upd i v t (fun t' => k ((j, v) :: t')) else y_upd i v t (fun t' => k ((j, u) :: t'))
-- bounds
def y_in32 (lo hi : Int) : Bool := decide (-2147483648 ≤ lo) && decide (hi ≤ 2147483647)
def y_in64 (lo hi : Int) : Bool := decide (-9223372036854775808 ≤ lo) && decide (hi ≤ 9223372036854775807)
def y_z : y_Q := (0, 0, 0, 0)
def y_i32 : y_V := (0, -2147483648, 2147483647, y_z)
def y_i64 : y_V := (1, -9223372036854775808, 9223372036854775807, y_z)
def y_mk32 (lo hi : Int) (r : y_Q) : y_V := bif y_in32 lo hi then (0, lo, hi, r) else y_i32
def y_mk64 (lo hi : Int) (r : y_Q) : y_V := bif y_in64 lo hi then (1, lo, hi, r) else y_i64
/-- what a number is besides its bounds, n added -/
def y_sh (r : y_Q) (n : Int) : y_Q := (r.1, r.2.1 + n, r.2.2.1, r.2.2.2 + n)
def y_addI (x y : y_V) : (Int × Int) × y_Q :=
  ((x.2.1 + y.2.1, x.2.2.1 + y.2.2.1), bif decide (y.2.1 = y.2.2.1) then y_sh x.2.2.2 y.2.1 else bif decide (x.2.1 = x.2.2.1) then y_sh y.2.2.2 x.2.1 else y_z)
/-- a difference is no less than what the second one doesn't pass the first by -/
def y_dif (x y : y_Q) (lo : Int) : Int := bif Nat.beq x.1 0 then lo else bif Nat.beq x.1 y.2.2.1 then s_max lo (x.2.1 - y.2.2.2) else lo
def y_subI (x y : y_V) : (Int × Int) × y_Q :=
  ((y_dif x.2.2.2 y.2.2.2 (x.2.1 - y.2.2.1), x.2.2.1 - y.2.1), bif decide (y.2.1 = y.2.2.1) then y_sh x.2.2.2 (-y.2.1) else y_z)
def y_mulI (x y : y_V) : Int × Int :=
  (s_min (s_min (x.2.1 * y.2.1) (x.2.1 * y.2.2.1)) (s_min (x.2.2.1 * y.2.1) (x.2.2.1 * y.2.2.1)), s_max (s_max (x.2.1 * y.2.1) (x.2.1 * y.2.2.1)) (s_max (x.2.2.1 * y.2.1) (x.2.2.1 * y.2.2.1)))
/-- sums, differences, products; else any -/
def y_bin32 (a : Nat) (x y : y_V) : y_V := match a with
  | 0 => y_mk32 (y_addI x y).1.1 (y_addI x y).1.2 (y_addI x y).2
  | 1 => y_mk32 (y_subI x y).1.1 (y_subI x y).1.2 (y_subI x y).2
  | 2 => y_mk32 (y_mulI x y).1 (y_mulI x y).2 y_z
  | _ => y_i32
def y_bin64 (a : Nat) (x y : y_V) : y_V := match a with
  | 0 => y_mk64 (y_addI x y).1.1 (y_addI x y).1.2 (y_addI x y).2
  | 1 => y_mk64 (y_subI x y).1.1 (y_subI x y).1.2 (y_subI x y).2
  | _ => y_mk64 (y_mulI x y).1 (y_mulI x y).2 y_z
def y_no0 (y : y_V) : Bool := decide (0 < y.2.1) || decide (y.2.2.1 < 0)
def y_abm (x : y_V) : Int := s_max (-x.2.1) x.2.2.1
/-- quotients and rests by a number that isn't 0 -/
def y_div32 (a : Nat) (x y : y_V) : y_V := bif decide (0 ≤ x.2.1) && decide (0 < y.2.1) then (bif Nat.beq a 0 then (0, 0, x.2.2.1, y_z) else (0, 0, y.2.2.1 - 1, y_z)) else bif Nat.beq a 0 then y_mk32 (-(y_abm x)) (y_abm x) y_z else y_i32
def y_div64 (a : Nat) (x y : y_V) : y_V := bif decide (0 ≤ x.2.1) && decide (0 < y.2.1) then (bif Nat.beq a 0 then (1, 0, x.2.2.1, y_z) else (1, 0, y.2.2.1 - 1, y_z)) else bif Nat.beq a 0 then y_mk64 (-(y_abm x)) (y_abm x) y_z else y_i64
def y_un32 (a : Nat) (x : y_V) : y_V := match a with
  | 0 => bif decide (-2147483648 < x.2.1) then (0, -x.2.2.1, -x.2.1, y_z) else y_i32
  | 1 => (0, -128, 127, y_z)
  | _ => (0, -32768, 32767, y_z)
/-- a number where a condition holds between it and another (0 =, 1 ≠, 2 <, 3 ≥, 4 >, 5 ≤): both bounds, or none -/
def y_ne (lo hi a b : Int) : Int × Int := bif decide (a = b) && decide (lo = a) then (lo + 1, hi) else bif decide (a = b) && decide (hi = a) then (lo, hi - 1) else (lo, hi)
def y_cnd (cd : Nat) (a b c d : Int) : (Int × Int) × Int × Int := match cd with
  | 0 => ((s_max a c, s_min b d), s_max a c, s_min b d)
  | 1 => (y_ne a b c d, y_ne c d a b)
  | 2 => ((a, s_min b (d - 1)), s_max c (a + 1), d)
  | 3 => ((s_max a c, b), c, s_min d b)
  | 4 => ((s_max a (c + 1), b), c, s_min d (b - 1))
  | _ => ((a, s_min b d), s_max c a, d)
def y_neg (cd : Nat) : Nat := match cd with
  | 0 => 1
  | 1 => 0
  | 2 => 3
  | 3 => 2
  | 4 => 5
  | _ => 4
/-- the name that a number doesn't pass where it is at most y + n -/
def y_cand (y : y_Q) (n : Int) : Nat × Int := bif Nat.ble 200000 y.1 then (y.1, y.2.1 + n) else bif Nat.ble 200000 y.2.2.1 then (y.2.2.1, y.2.2.2 + n) else bif Nat.beq y.1 0 then (y.2.2.1, y.2.2.2 + n) else (y.1, y.2.1 + n)
def y_pick (o c : Nat × Int) : Nat × Int := bif Nat.beq c.1 0 then o else bif Nat.beq o.1 0 then c else bif Nat.beq o.1 c.1 then (o.1, s_min o.2 c.2) else bif Nat.ble 200000 o.1 then o else c
def y_ubx (x y : y_Q) (n : Int) : y_Q := match y_pick x.2.2 (y_cand y n) with
  | (k, c) => (x.1, x.2.1, k, c)
/-- what is known of both where the condition holds -/
def y_cq (cd : Nat) (x y : y_Q) : y_Q × y_Q := match cd with
  | 0 => (y_ubx x y 0, y_ubx y x 0)
  | 1 => (x, y)
  | 2 => (y_ubx x y (-1), y)
  | 3 => (x, y_ubx y x 0)
  | 4 => (x, y_ubx y x (-1))
  | _ => (y_ubx x y 0, y)
/-- bounds of a local made narrower, where the number is a copy of it -/
def y_nar {α : Type} (t : y_T) (lo hi : Int) (r : y_Q) (L : y_L) (k : y_L → α) : α := match t.2 with
  | 0 => k L
  | i + 1 => y_fv (t.1.1, lo, hi, r) (fun v => y_upd i v L k)
def y_two (a b : Option (List y_X)) : Option (List y_X) := match a with
  | some a => match b with
    | some b => some (a ++ b)
    | none => none
  | none => none
/-- all that tells of a name, where a number that is the name plus c has bounds -/
def y_narK {α : Type} (k : Nat) (c lo hi : Int) : y_L → (y_L → α) → α
  | [], f => f []
  | (j, v) :: t, f => bif Nat.beq v.1 0 && Nat.beq v.2.2.2.1 k then y_fv (0, s_max v.2.1 (lo - c + v.2.2.2.2.1), s_min v.2.2.1 (hi - c + v.2.2.2.2.1), v.2.2.2) (fun v => y_narK k c lo hi t (fun t => f ((j, v) :: t)))
    else bif Nat.beq v.1 0 && (Nat.ble 200000 k && Nat.beq j k) then y_fv (0, s_max v.2.1 (lo - c), s_min v.2.2.1 (hi - c), v.2.2.2) (fun v => y_narK k c lo hi t (fun t => f ((j, v) :: t)))
    else y_narK k c lo hi t (fun t => f ((j, v) :: t))
def y_narN {α : Type} (t : y_T) (lo hi : Int) (L : y_L) (k : y_L → α) : α := bif Nat.ble 150000 t.1.2.2.2.1 then y_narK t.1.2.2.2.1 t.1.2.2.2.2.1 lo hi L k else k L
-- what names rule out
def y_cfl (cd : Nat) (d : Int) : Bool := match cd with
  | 0 => !decide (d = 0)
  | 1 => decide (d = 0)
  | 2 => decide (0 ≤ d)
  | 3 => decide (d < 0)
  | 4 => decide (d ≤ 0)
  | _ => decide (0 < d)
def y_cfu (cd : Nat) (d : Int) : Bool := match cd with
  | 0 => decide (d < 0)
  | 3 => decide (d < 0)
  | 4 => decide (d ≤ 0)
  | _ => false
def y_cfv (cd : Nat) (d : Int) : Bool := match cd with
  | 0 => decide (d < 0)
  | 2 => decide (d ≤ 0)
  | 5 => decide (d < 0)
  | _ => false
def y_rinf (cd : Nat) (x y : y_Q) : Bool := (!Nat.beq x.1 0 && (Nat.beq x.1 y.1 && y_cfl cd (x.2.1 - y.2.1))) || ((!Nat.beq y.1 0 && (Nat.beq x.2.2.1 y.1 && y_cfu cd (x.2.2.2 - y.2.1))) || (!Nat.beq x.1 0 && (Nat.beq y.2.2.1 x.1 && y_cfv cd (y.2.2.2 - x.2.1))))
/-- one road of a branch: what holds on it of both numbers; none if it can't be taken -/
def y_road0 (cd : Nat) (x y : y_T) (L : y_L) (rest : List y_T) (t : Option (List s_I)) : Option (List y_X) := match y_cnd cd x.1.2.1 x.1.2.2.1 y.1.2.1 y.1.2.2.1 with
  | ((a, b), c, d) => s_fi a (fun a => s_fi b (fun b => s_fi c (fun c => s_fi d (fun d => bif (decide (b < a) || decide (d < c)) || y_rinf cd x.1.2.2.2 y.1.2.2.2 then some [] else match t with
    | some t => match y_cq cd x.1.2.2.2 y.1.2.2.2 with
      | (p, q) => y_nar x a b p L (fun L => y_nar y c d q L (fun L => y_narN x a b L (fun L => y_narN y c d L (fun L => some [(t, L, rest)]))))
    | none => none))))
/-- other than a number inside the bounds: below it, or above it -/
def y_spl (cd : Nat) (x y : y_T) : Bool := Nat.beq cd 1 && (decide (y.1.2.1 = y.1.2.2.1) && (decide (x.1.2.1 < y.1.2.1) && decide (y.1.2.1 < x.1.2.2.1)))
def y_road (cd : Nat) (x y : y_T) (L : y_L) (rest : List y_T) (t : Option (List s_I)) : Option (List y_X) := bif y_spl cd x y then y_two (y_road0 2 x y L rest t) (y_road0 4 x y L rest t) else y_road0 cd x y L rest t
def y_bra (full : List s_I) (r : s_I) (t : List s_I) (tgt cd : Nat) (x y : y_T) (L : y_L) (rest : List y_T) : Option (List y_X) :=
  y_two (y_road cd x y L rest (s_jump full tgt)) (y_road (y_neg cd) x y L rest (bif s_go r t then some t else none))
def y_leq (v w : y_Q) : Bool := (Nat.beq w.1 0 || (Nat.beq w.1 v.1 && decide (w.2.1 = v.2.1))) && (Nat.beq w.2.2.1 0 || ((Nat.beq w.2.2.1 v.2.2.1 && decide (v.2.2.2 ≤ w.2.2.2)) || (Nat.beq w.2.2.1 v.1 && decide (v.2.1 ≤ w.2.2.2))))
/-- v may stand where w is told -/
def y_le (v w : y_V) : Bool := match w.1 with
  | 0 => Nat.beq v.1 0 && (decide (w.2.1 ≤ v.2.1) && (decide (v.2.2.1 ≤ w.2.2.1) && y_leq v.2.2.2 w.2.2.2))
  | 1 => Nat.beq v.1 1 && (decide (w.2.1 ≤ v.2.1) && (decide (v.2.2.1 ≤ w.2.2.1) && y_leq v.2.2.2 w.2.2.2))
  | 2 => Nat.beq v.1 2 && decide (v.2.1.toNat = w.2.1.toNat)
  | 3 => Nat.beq v.1 4 || ((Nat.beq v.1 2 || Nat.beq v.1 3) && decide (v.2.1.toNat = w.2.1.toNat))
  | 4 => Nat.beq v.1 4
  | _ => false
def y_isI (t : y_T) : Bool := Nat.beq t.1.1 0
def y_isL (t : y_T) : Bool := Nat.beq t.1.1 1
def y_tk (kd : Nat) (v : y_V) : Bool := match kd with
  | 0 => Nat.beq v.1 0
  | 1 => Nat.beq v.1 1
  | _ => Nat.ble 2 v.1 && Nat.ble v.1 4
def y_conV (v : s_V) : Option y_V := match v with
  | (0, n) => bif y_in32 n n then some (0, n, n, y_z) else none
  | (1, n) => bif y_in64 n n then some (1, n, n, y_z) else none
  | (4, _) => some (4, 0, 0, y_z)
  | _ => none
/-- a frozen role isn't looked at -/
def y_nf (o : Option y_R1) : Option y_R1 := match o with
  | some ro => match ro.2.2.2.2 with
    | [] => none
    | _ :: _ => some ro
  | none => none
def y_ro (R : y_R) (t : y_T) : Option y_R1 := bif Nat.beq t.1.1 2 then y_nf R.1[t.1.2.1.toNat]? else none
def y_fok (ty : Nat) (v : y_V) : Bool := match ty with
  | 0 => Nat.beq v.1 0
  | 1 => Nat.beq v.1 1
  | 2 => Nat.beq v.1 0 && (decide (0 ≤ v.2.1) && decide (v.2.2.1 ≤ 1))
  | 3 => Nat.ble 2 v.1 && Nat.ble v.1 4
  | _ => false
/-- bounds of a number that is the name k plus c, by all that is known of the name -/
def y_fb (k : Nat) (c : Int) : y_L → Int × Int → Int × Int
  | [], b => b
  | (j, v) :: t, b => y_fb k c t (bif Nat.beq v.1 0 && Nat.beq v.2.2.2.1 k then (s_max b.1 (v.2.1 - v.2.2.2.2.1 + c), s_min b.2 (v.2.2.1 - v.2.2.2.2.1 + c)) else bif Nat.ble 200000 k && (Nat.beq j k && Nat.beq v.1 0) then (s_max b.1 (v.2.1 + c), s_min b.2 (v.2.2.1 + c)) else b)
def y_red (L : y_L) (v : y_V) : y_V := bif Nat.beq v.1 0 then
    match (bif Nat.beq v.2.2.2.1 0 then (v.2.1, v.2.2.1) else y_fb v.2.2.2.1 v.2.2.2.2.1 L (v.2.1, v.2.2.1)) with
    | (lo, hi) => (0, lo, (bif Nat.beq v.2.2.2.2.2.1 0 then hi else (y_fb v.2.2.2.2.2.1 v.2.2.2.2.2.2 L (lo, hi)).2), v.2.2.2)
  else v
def y_push (t : List s_I) (L : y_L) (st : List y_T) (v : y_V) : Option (List y_X) := y_fv v (fun v => some [(t, L, (v, 0) :: st)])
def y_q0 (t : List s_I) (L : y_L) (st : List y_T) (ins : Instr) : Option (List y_X) := match s_conI ins with
  | some v => match y_conV v with
    | some u => y_push t L st u
    | none => none
  | none => none
def y_q1 (t : List s_I) (L : y_L) (st : List y_T) (a b : Nat) : Option (List y_X) := match y_find L a with
  | some v => bif Nat.blt a 200000 && y_tk b v then y_fv (y_red L v) (fun v => some [(t, L, (v, a + 1) :: st)]) else none
  | none => none
def y_q2 (nL : Nat) (t : List s_I) (L : y_L) (st : List y_T) (a b : Nat) : Option (List y_X) := match st with
  | v :: rest => bif y_tk b v.1 && (Nat.blt a 200000 && (Nat.blt a nL && !y_c2 v.1)) then y_fil1 a L (fun L' => y_clr rest (fun rest => some [(t, (a, v.1) :: L', rest)])) else none
  | [] => none
def y_q3 (nL : Nat) (t : List s_I) (L : y_L) (st : List y_T) (a b : Nat) : Option (List y_X) := match st with
  | v :: rest => bif y_tk b v.1 && (Nat.blt a 200000 && (Nat.blt (a + 1) nL && y_c2 v.1)) then y_fil2 a L (fun L' => y_clr rest (fun rest => some [(t, (a, v.1) :: L', rest)])) else none
  | [] => none
def y_q4 (nL : Nat) (t : List s_I) (L : y_L) (st : List y_T) (a : Nat) (n : Int) : Option (List y_X) := match y_find L a with
  | some u => bif Nat.beq u.1 0 && (Nat.blt a 200000 && (Nat.blt a nL && y_in32 n n)) then y_fv (y_bin32 0 u (0, n, n, y_z)) (fun v => y_fil1 a L (fun L' => y_clr st (fun st => some [(t, (a, v) :: L', st)]))) else none
  | none => none
def y_q5 (t : List s_I) (L : y_L) (st : List y_T) : Option (List y_X) := match st with
  | v :: rest => bif y_c2 v.1 then none else some [(t, L, v :: v :: rest)]
  | [] => none
def y_q6 (t : List s_I) (L : y_L) (st : List y_T) : Option (List y_X) := match st with
  | v :: rest => bif y_c2 v.1 then none else some [(t, L, rest)]
  | [] => none
def y_q7 (t : List s_I) (L : y_L) (st : List y_T) : Option (List y_X) := match st with
  | v :: u :: rest => bif y_c2 v.1 || y_c2 u.1 then none else some [(t, L, v :: u :: v :: rest)]
  | _ => none
def y_q8 (t : List s_I) (L : y_L) (st : List y_T) : Option (List y_X) := match st with
  | v :: u :: rest => bif y_c2 v.1 then some [(t, L, v :: v :: u :: rest)] else bif y_c2 u.1 then none else some [(t, L, v :: u :: v :: u :: rest)]
  | _ => none
def y_q11 (t : List s_I) (L : y_L) (st : List y_T) (a : Nat) : Option (List y_X) := match st with
  | y :: x :: rest => bif y_isI x && y_isI y then y_push t L rest (y_bin32 a x.1 y.1) else none
  | _ => none
def y_q12 (t : List s_I) (L : y_L) (st : List y_T) (a : Nat) : Option (List y_X) := match st with
  | y :: x :: rest => bif y_isI x && (y_isI y && y_no0 y.1) then y_push t L rest (y_div32 a x.1 y.1) else none
  | _ => none
def y_q13 (t : List s_I) (L : y_L) (st : List y_T) (a : Nat) : Option (List y_X) := match st with
  | x :: rest => bif y_isI x then y_push t L rest (y_un32 a x.1) else none
  | _ => none
def y_q14 (t : List s_I) (L : y_L) (st : List y_T) (a : Nat) : Option (List y_X) := match st with
  | y :: x :: rest => bif y_isL x && y_isL y then y_push t L rest (y_bin64 a x.1 y.1) else none
  | _ => none
def y_q15 (t : List s_I) (L : y_L) (st : List y_T) (a : Nat) : Option (List y_X) := match st with
  | y :: x :: rest => bif y_isL x && (y_isL y && y_no0 y.1) then y_push t L rest (y_div64 a x.1 y.1) else none
  | _ => none
def y_q16 (t : List s_I) (L : y_L) (st : List y_T) : Option (List y_X) := match st with
  | x :: rest => bif y_isL x then y_push t L rest (bif decide (-9223372036854775808 < x.1.2.1) then (1, -x.1.2.2.1, -x.1.2.1, y_z) else y_i64) else none
  | _ => none
def y_q17 (t : List s_I) (L : y_L) (st : List y_T) : Option (List y_X) := match st with
  | x :: rest => bif y_isI x then y_push t L rest (1, x.1.2) else none
  | _ => none
def y_q18 (t : List s_I) (L : y_L) (st : List y_T) : Option (List y_X) := match st with
  | x :: rest => bif y_isL x then y_push t L rest (bif y_in32 x.1.2.1 x.1.2.2.1 then (0, x.1.2) else y_i32) else none
  | _ => none
/-- a comparison of longs and the branch behind it -/
def y_q19 (full : List s_I) (t : List s_I) (L : y_L) (st : List y_T) : Option (List y_X) := match st with
  | y :: x :: rest => match t with
    | (pc, len, q, kd, a, b, v, ins) :: t' => bif y_isL x && (y_isL y && Nat.beq q 21) then y_bra full (pc, len, q, kd, a, b, v, ins) t' a b x y L rest else none
    | [] => none
  | _ => none
def y_jmp (full : List s_I) (pc : Nat) (L : y_L) (st : List y_T) : Option (List y_X) := match s_jump full pc with
  | some t' => some [(t', L, st)]
  | none => none
def y_q21 (full : List s_I) (r : s_I) (t : List s_I) (L : y_L) (st : List y_T) (a b : Nat) : Option (List y_X) := match st with
  | x :: rest => bif y_isI x then y_bra full r t a b x ((0, 0, 0, y_z), 0) L rest else none
  | _ => none
def y_q22 (full : List s_I) (r : s_I) (t : List s_I) (L : y_L) (st : List y_T) (a b : Nat) : Option (List y_X) := match st with
  | y :: x :: rest => bif y_isI x && y_isI y then y_bra full r t a b x y L rest else none
  | _ => none
/-- null or not: the road where it is null, the road where it isn't -/
def y_nul (x : y_T) (L : y_L) (rest : List y_T) (t : Option (List s_I)) : Option (List y_X) := bif Nat.beq x.1.1 2 then some [] else match t with
  | some t => some [(t, L, rest)]
  | none => none
def y_nnl (x : y_T) (L : y_L) (rest : List y_T) (t : Option (List s_I)) : Option (List y_X) := bif Nat.beq x.1.1 4 then some [] else match t with
  | some t => match x.2 with
    | 0 => some [(t, L, rest)]
    | i + 1 => y_fv (2, x.1.2) (fun v => y_upd i v L (fun L => some [(t, L, rest)]))
  | none => none
def y_q23 (full : List s_I) (r : s_I) (t : List s_I) (L : y_L) (st : List y_T) (a : Nat) (nn : Bool) : Option (List y_X) := match st with
  | x :: rest => bif Nat.ble 2 x.1.1 && Nat.ble x.1.1 4 then
      (bif nn then y_two (y_nnl x L rest (s_jump full a)) (y_nul x L rest (bif s_go r t then some t else none))
        else y_two (y_nul x L rest (s_jump full a)) (y_nnl x L rest (bif s_go r t then some t else none))) else none
  | _ => none
/-- all targets of a switch -/
def y_tgts (full : List s_I) (pc : Nat) (L : y_L) (rest : List y_T) : List Int → Option (List y_X)
  | [] => some []
  | off :: os => match s_tgt pc off with
    | some p => match s_jump full p with
      | some t' => match y_tgts full pc L rest os with
        | some Xs => some ((t', L, rest) :: Xs)
        | none => none
      | none => none
    | none => none
def y_q25 (full : List s_I) (pc : Nat) (L : y_L) (st : List y_T) (ins : Instr) : Option (List y_X) := match ins with
  | .tableswitch dflt lo hi offs => match st with
    | x :: rest => bif y_isI x && decide ((hi - lo + 1).toNat ≤ offs.size) then y_tgts full pc L rest (dflt :: offs.toList) else none
    | _ => none
  | _ => none
/-- the name of a field -/
def y_nm : List (Nat × Nat × Nat) → Nat → Nat → Nat
  | [], _, _ => 0
  | (i, r, j) :: t, r', j' => bif Nat.beq r r' && Nat.beq j j' then i else y_nm t r' j'
def y_q26 (R : y_R) (t : List s_I) (L : y_L) (st : List y_T) (kd a b : Nat) : Option (List y_X) := match st with
  | u :: rest => match y_ro R u with
    | some ro => bif Nat.ble kd 1 && (!ro.1 && (Nat.beq ro.2.1 a && Nat.blt b ro.2.2.1)) then match y_nm R.2 u.1.2.1.toNat b with
        | 0 => some [(t, L, (y_sp ro b, 0) :: rest)]
        | i + 1 => bif Nat.beq (y_sp ro b).1 0 then match y_find L (i + 1) with
          | some v => bif Nat.beq v.1 0 then s_fn (i + 1) (fun i => y_fv (y_red L (0, v.2.1, v.2.2.1, bif Nat.ble 300000 i && !Nat.beq v.2.2.2.1 0 then v.2.2.2 else (i, 0, v.2.2.2.2.2))) (fun v => some [(t, L, (v, i + 1) :: rest)])) else none
          | none => s_fn (i + 1) (fun i => some [(t, (i, (0, (y_sp ro b).2.1, (y_sp ro b).2.2.1, i, 0, 0, 0)) :: L, ((0, (y_sp ro b).2.1, (y_sp ro b).2.2.1, i, 0, 0, 0), i + 1) :: rest)]) else none else none
    | none => none
  | _ => none
/-- a name's number changes: what was known by it is forgotten -/
def y_fgq (i : Nat) (r : y_Q) : y_Q := bif Nat.beq r.1 i then (bif Nat.beq r.2.2.1 i then y_z else (0, 0, r.2.2)) else bif Nat.beq r.2.2.1 i then (r.1, r.2.1, 0, 0) else r
def y_fgv (i : Nat) (v : y_V) : y_V := bif Nat.blt v.1 2 then (v.1, v.2.1, v.2.2.1, y_fgq i v.2.2.2) else v
def y_fgL {α : Type} (i : Nat) : y_L → (y_L → α) → α
  | [], k => k []
  | (j, v) :: t, k => bif Nat.beq j i then y_fgL i t k else y_fv (y_fgv i v) (fun v => y_fgL i t (fun t => k ((j, v) :: t)))
def y_fgS {α : Type} (i : Nat) : List y_T → (List y_T → α) → α
  | [], k => k []
  | (v, j) :: t, k => y_fv (y_fgv i v) (fun v => y_fgS i t (fun t => k ((v, bif Nat.beq j (i + 1) then 0 else j) :: t)))
def y_q27 (R : y_R) (ft : s_FT) (t : List s_I) (L : y_L) (st : List y_T) (kd a b : Nat) : Option (List y_X) := match st with
  | v :: u :: rest => match y_ro R u with
    | some ro => match (ft.getD a []).getD b (9, true) with
      | (ty, fin) => bif Nat.ble kd 1 && (!ro.1 && (Nat.beq ro.2.1 a && (Nat.blt b ro.2.2.1 && (y_le v.1 (y_sp ro b) && (y_fok ty v.1 && !fin))))) then match y_nm R.2 u.1.2.1.toNat b with
          | 0 => some [(t, L, rest)]
          | i + 1 => bif Nat.ble 300000 (i + 1) && Nat.beq v.1.1 0 then s_fn (i + 1) (fun i => y_fv (y_fgv i v.1) (fun w => y_fgL i L (fun L => y_fgS i rest (fun rest => some [(t, (i, w) :: L, rest)])))) else none
        else none
    | none => none
  | _ => none
def y_q28 (R : y_R) (t : List s_I) (L : y_L) (st : List y_T) : Option (List y_X) := match st with
  | u :: rest => match y_ro R u with
    | some ro => bif ro.1 && (Nat.blt ro.2.1 5 && Nat.ble ro.2.2.1 2147483647) then s_fi (ro.2.2.1 : Int) (fun n => some [(t, L, ((0, n, n, y_z), 0) :: rest)]) else none
    | none => none
  | _ => none
def y_inb (j : y_V) (n : Nat) : Bool := Nat.beq j.1 0 && (decide (0 ≤ j.2.1) && decide (j.2.2.1 < (n : Int)))
/-- what an array of a kind may hold -/
def y_ael (tag : Nat) (v : y_V) : Bool := match tag with
  | 0 => Nat.beq v.1 0
  | 1 => Nat.beq v.1 1
  | 2 => Nat.beq v.1 0 && (decide (0 ≤ v.2.1) && decide (v.2.2.1 ≤ 1))
  | 3 => Nat.beq v.1 0 && (decide (-128 ≤ v.2.1) && decide (v.2.2.1 ≤ 127))
  | _ => Nat.beq v.1 3
/-- the place is ahead of the number that the name stands for -/
def y_ahd (lim : Nat) (j : y_V) : Bool := Nat.beq lim 0 || ((Nat.beq j.2.2.2.1 lim && decide (j.2.2.2.2.1 ≤ -1)) || (Nat.beq j.2.2.2.2.2.1 lim && decide (j.2.2.2.2.2.2 ≤ -1)))
def y_rd (ro : y_R1) (j : y_V) : y_V := bif y_ahd ro.2.2.2.1 j then y_sp ro 0 else bif y_le (y_sp ro 0) (y_sp ro 1) then y_sp ro 1 else y_no
def y_q32 (R : y_R) (t : List s_I) (L : y_L) (st : List y_T) (a : Nat) : Option (List y_X) := match st with
  | j :: u :: rest => match y_ro R u with
    | some ro => bif ro.1 && (s_akd a ro.2.1 && (y_inb j.1 ro.2.2.1 && y_ael ro.2.1 (y_rd ro j.1))) then some [(t, L, (y_rd ro j.1, 0) :: rest)] else none
    | none => none
  | _ => none
def y_q33 (R : y_R) (t : List s_I) (L : y_L) (st : List y_T) (a : Nat) : Option (List y_X) := match st with
  | v :: j :: u :: rest => match y_ro R u with
    | some ro => bif ro.1 && (s_akd a ro.2.1 && (!y_rov ro && (Nat.blt ro.2.1 4 && (y_inb j.1 ro.2.2.1 && (y_le v.1 (y_sp ro 0) && ((Nat.beq ro.2.2.2.1 0 || y_le v.1 (y_sp ro 1)) && y_ael ro.2.1 v.1)))))) then some [(t, L, rest)] else none
    | none => none
  | _ => none
/-- the step's successors, calls and ends apart -/
def y_do (R : y_R) (ft : s_FT) (full : List s_I) (nL : Nat) (r : s_I) (t : List s_I) (L : y_L) (st : List y_T) : Option (List y_X) :=
  match r with
  | (_, _, q, kd, a, b, v, ins) =>
    bif Nat.blt q 19 then
      bif s_go r t then
        bif Nat.blt q 5 then
          bif Nat.blt q 2 then (bif Nat.beq q 0 then y_q0 t L st ins else y_q1 t L st a b)
          else bif Nat.blt q 4 then (bif Nat.beq q 2 then y_q2 nL t L st a b else y_q3 nL t L st a b)
          else y_q4 nL t L st a v
        else bif Nat.blt q 11 then
          bif Nat.blt q 7 then (bif Nat.beq q 5 then y_q5 t L st else y_q6 t L st)
          else bif Nat.blt q 9 then (bif Nat.beq q 7 then y_q7 t L st else y_q8 t L st)
          else bif Nat.beq q 9 && (Nat.beq kd 10 && y_in32 v v) then some [(t, L, ((0, v, v, y_z), 0) :: st)]
          else bif Nat.beq q 10 && (Nat.beq kd 11 && y_in64 v v) then some [(t, L, ((1, v, v, y_z), 0) :: st)] else none
        else bif Nat.blt q 16 then
          bif Nat.blt q 13 then (bif Nat.beq q 11 then y_q11 t L st a else y_q12 t L st a)
          else bif Nat.beq q 13 then y_q13 t L st a
          else bif Nat.beq q 14 then y_q14 t L st a else y_q15 t L st a
        else bif Nat.beq q 16 then y_q16 t L st else bif Nat.beq q 17 then y_q17 t L st else y_q18 t L st
      else none
    else bif Nat.blt q 25 then
      bif Nat.beq q 19 then (bif s_go r t then y_q19 full t L st else none)
      else bif Nat.beq q 20 then y_jmp full a L st
      else bif Nat.beq q 21 then y_q21 full r t L st a b
      else bif Nat.beq q 22 then y_q22 full r t L st a b
      else y_q23 full r t L st a (Nat.beq q 24)
    else bif Nat.beq q 25 then y_q25 full r.1 L st ins
    else bif s_go r t then
      bif Nat.beq q 26 then y_q26 R t L st kd a b
      else bif Nat.beq q 27 then y_q27 R ft t L st kd a b
      else bif Nat.beq q 28 then y_q28 R t L st
      else bif Nat.beq q 32 then y_q32 R t L st a
      else bif Nat.beq q 33 then y_q33 R t L st a else none
    else none
