-- a machine over values of which only bounds are known: numbers are told by variables with bounds, addresses by places
-- a value: 0 int, 1 long, 2 int variable, 3 long variable, 4 null, 5 a cell's place, else the script
abbrev s_V : Type := Nat × Int
abbrev s_E : Type := List (Int × Int)
abbrev s_R : Type := List (Nat × Nat × Int)
abbrev s_B : Type := List (Nat × Nat × Nat)
abbrev s_C : Type := Bool × Nat × Nat × s_V × List (Nat × s_V)
abbrev s_M : Type := s_E × s_R × s_B × List s_C
-- an instruction: pc, length, what it does, kind of pool entry, three numbers, itself
abbrev s_I : Type := Nat × Nat × Nat × Nat × Nat × Nat × Int × Instr
abbrev s_L : Type := List (Nat × s_V)
abbrev s_X : Type := List s_I × s_L × List s_V × Nat × Nat × s_M
abbrev s_O : Type := (Nat × Nat × Int) ⊕ s_X
-- what they stand for
def s_cv (σ : Nat → Int) (ρ : Nat → Nat) (b : Nat) : s_V → Value
  | (0, n) => .int (Int32.ofInt n)
  | (1, n) => .long (Int64.ofInt n)
  | (2, n) => .int (Int32.ofInt (σ n.toNat))
  | (3, n) => .long (Int64.ofInt (σ n.toNat))
  | (4, _) => .null
  | (5, n) => .ref (ρ n.toNat)
  | (_, _) => .ref b
def s_lk : List (Nat × s_V) → Nat → s_V → s_V
  | [], _, d => d
  | (i, v) :: t, j, d => bif Nat.beq i j then v else s_lk t j d
def s_put : List (Nat × s_V) → Nat → s_V → List (Nat × s_V)
  | [], j, v => [(j, v)]
  | (i, u) :: t, j, v => bif Nat.beq i j then (j, v) :: t else (i, u) :: s_put t j v
def s_cc (σ : Nat → Int) (ρ : Nat → Nat) (b : Nat) (c : s_C) : g_HC := (c.1, c.2.1, c.2.2.1, fun j => s_cv σ ρ b (s_lk c.2.2.2.2 j c.2.2.2.1))
def s_ch (σ : Nat → Int) (ρ : Nat → Nat) (b : Nat) : Nat → List s_C → g_H
  | _, [] => []
  | i, c :: t => (ρ i, s_cc σ ρ b c) :: s_ch σ ρ b (i + 1) t
def s_cL (σ : Nat → Int) (ρ : Nat → Nat) (b : Nat) (L : s_L) : g_L := L.map (fun q => (q.1, s_cv σ ρ b q.2))
def s_pc : List s_I → Nat
  | [] => 0
  | r :: _ => r.1
def s_cX (σ : Nat → Int) (ρ : Nat → Nat) (b : Nat) (X : s_X) : g_S := (s_pc X.1, s_cL σ ρ b X.2.1, X.2.2.1.map (s_cv σ ρ b), X.2.2.2.1, X.2.2.2.2.1, s_ch σ ρ b 0 X.2.2.2.2.2.2.2.2)
/-- what holds of the variables -/
def s_ok (xs : Nat → Int) (σ : Nat → Int) (M : s_M) : Prop :=
  (∀ i r, M.1[i]? = some r → r.1 ≤ σ i ∧ σ i ≤ r.2) ∧ (∀ q ∈ M.2.1, σ q.1 + q.2.2 ≤ σ q.2.1) ∧ (∀ q ∈ M.2.2.1, σ q.2.2 = σ q.1 - σ q.2.1) ∧ ∀ i, i < 5 → σ i = xs i
-- forcing (the kernel is lazy)
def s_fn {α : Type} (n : Nat) (k : Nat → α) : α := match n with
  | 0 => k 0
  | m + 1 => k (m + 1)
theorem s_fn_eq {α : Type} (n : Nat) (k : Nat → α) : s_fn n k = k n := by cases n <;> rfl
def s_fi {α : Type} (n : Int) (k : Int → α) : α := match n with
  | .ofNat m => s_fn m (fun m => k (.ofNat m))
  | .negSucc m => s_fn m (fun m => k (.negSucc m))
theorem s_fi_eq {α : Type} (n : Int) (k : Int → α) : s_fi n k = k n := by cases n <;> simp [s_fi, s_fn_eq]
def s_hset {α : Type} : List s_C → Nat → s_C → (List s_C → α) → α
  | [], _, _, k => k []
  | _ :: t, 0, c, k => k (c :: t)
  | u :: t, n + 1, c, k => s_hset t n c (fun t' => k (u :: t'))
theorem s_hset_eq {α : Type} : ∀ (l : List s_C) (n : Nat) (c : s_C) (k : List s_C → α), s_hset l n c k = k (l.set n c)
  | [], _, _, _ => rfl
  | _ :: _, 0, _, _ => rfl
  | u :: t, n + 1, c, k => by simp only [s_hset, s_hset_eq t n c, List.set_cons_succ]
def s_putK {α : Type} : List (Nat × s_V) → Nat → s_V → (List (Nat × s_V) → α) → α
  | [], j, v, k => k [(j, v)]
  | (i, u) :: t, j, v, k => bif Nat.beq i j then k ((j, v) :: t) else s_putK t j v (fun t' => k ((i, u) :: t'))
theorem s_putK_eq {α : Type} : ∀ (l : List (Nat × s_V)) (j : Nat) (v : s_V) (k : List (Nat × s_V) → α), s_putK l j v k = k (s_put l j v)
  | [], _, _, _ => rfl
  | (i, u) :: t, j, v, k => by
    simp only [s_putK, s_put]
    cases Nat.beq i j
    · simp only [cond_false, s_putK_eq t j v]
    · simp only [cond_true]
def s_app {α : Type} : List s_C → s_C → (List s_C → α) → α
  | [], c, k => k [c]
  | u :: t, c, k => s_app t c (fun t' => k (u :: t'))
theorem s_app_eq {α : Type} : ∀ (l : List s_C) (c : s_C) (k : List s_C → α), s_app l c k = k (l ++ [c])
  | [], _, _ => rfl
  | u :: t, c, k => by simp only [s_app, s_app_eq t c, List.cons_append]
theorem s_beq (a b : Nat) : Nat.beq a b = (a == b) := by
  rw [Bool.eq_iff_iff, beq_iff_eq, Nat.beq_eq]
def s_c2 (v : s_V) : Bool := Nat.beq v.1 1 || Nat.beq v.1 3
def s_fil1 {α : Type} (i : Nat) : s_L → (s_L → α) → α
  | [], k => k []
  | (j, u) :: t, k => bif (Nat.beq j i || (Nat.beq (j + 1) i && s_c2 u)) then s_fil1 i t k else s_fil1 i t (fun t' => k ((j, u) :: t'))
def s_fil2 {α : Type} (i : Nat) : s_L → (s_L → α) → α
  | [], k => k []
  | (j, u) :: t, k => bif (Nat.beq j i || (Nat.beq j (i + 1) || (Nat.beq (j + 1) i && s_c2 u))) then s_fil2 i t k else s_fil2 i t (fun t' => k ((j, u) :: t'))
theorem s_fil1_eq {α : Type} (i : Nat) : ∀ (l : s_L) (k : s_L → α), s_fil1 i l k = k (l.filter (fun q => !(q.1 == i) && !(q.1 + 1 == i && s_c2 q.2)))
  | [], _ => rfl
  | (j, u) :: t, k => by
    have e1 : Nat.beq j i = (j == i) := s_beq _ _
    have e2 : Nat.beq (j + 1) i = (j + 1 == i) := s_beq _ _
    simp only [s_fil1, List.filter_cons, e1, e2]
    cases (j == i) <;> cases (j + 1 == i) <;> cases (s_c2 u) <;> simp [s_fil1_eq i t]
theorem s_fil2_eq {α : Type} (i : Nat) : ∀ (l : s_L) (k : s_L → α), s_fil2 i l k = k (l.filter (fun q => !(q.1 == i) && (!(q.1 == i + 1) && !(q.1 + 1 == i && s_c2 q.2))))
  | [], _ => rfl
  | (j, u) :: t, k => by
    have e1 : Nat.beq j i = (j == i) := s_beq _ _
    have e2 : Nat.beq (j + 1) i = (j + 1 == i) := s_beq _ _
    have e3 : Nat.beq j (i + 1) = (j == i + 1) := s_beq _ _
    simp only [s_fil2, List.filter_cons, e1, e2, e3]
    cases (j == i) <;> cases (j + 1 == i) <;> cases (j == i + 1) <;> cases (s_c2 u) <;> simp [s_fil2_eq i t]
-- what is well told: variables and places that are there
def s_wV (nE nH : Nat) (v : s_V) : Bool := match v.1 with
  | 2 => Nat.blt v.2.toNat nE
  | 3 => Nat.blt v.2.toNat nE
  | 5 => Nat.blt v.2.toNat nH
  | _ => true
def s_wL (nE nH : Nat) (L : s_L) : Bool := L.all (fun q => s_wV nE nH q.2)
def s_wM (nE nH : Nat) (M : s_M) : Bool := M.2.1.all (fun q => Nat.blt q.1 nE && Nat.blt q.2.1 nE) && M.2.2.1.all (fun q => Nat.blt q.1 nE && (Nat.blt q.2.1 nE && Nat.blt q.2.2 nE)) && M.2.2.2.all (fun c => s_wV nE nH c.2.2.2.1 && s_wL nE nH c.2.2.2.2)
-- bounds
def s_in32 (n : Int) : Bool := decide (-2147483648 ≤ n) && decide (n ≤ 2147483647)
def s_in64 (n : Int) : Bool := decide (-9223372036854775808 ≤ n) && decide (n ≤ 9223372036854775807)
def s_iv (E : s_E) (v : s_V) : Option (Int × Int) := match v.1 with
  | 0 => bif s_in32 v.2 then some (v.2, v.2) else none
  | 2 => match E[v.2.toNat]? with
    | some r => bif (s_in32 r.1 && s_in32 r.2) then some r else none
    | none => none
  | _ => none
def s_ivl (E : s_E) (v : s_V) : Option (Int × Int) := match v.1 with
  | 1 => bif s_in64 v.2 then some (v.2, v.2) else none
  | 3 => match E[v.2.toNat]? with
    | some r => bif (s_in64 r.1 && s_in64 r.2) then some r else none
    | none => none
  | _ => none
def s_isv (v : s_V) : Bool := Nat.beq v.1 2 || Nat.beq v.1 3
/-- a < b: 1 yes, 0 no, else open -/
def s_lt (R : s_R) (ia ib : Int × Int) (a b : s_V) : Nat :=
  bif decide (ia.2 < ib.1) then 1 else bif decide (ib.2 ≤ ia.1) then 0 else
  bif s_isv a && s_isv b then
    bif R.any (fun q => Nat.beq q.1 a.2.toNat && (Nat.beq q.2.1 b.2.toNat && decide (1 ≤ q.2.2))) then 1 else
    bif R.any (fun q => Nat.beq q.1 b.2.toNat && (Nat.beq q.2.1 a.2.toNat && decide (0 ≤ q.2.2))) then 0 else 2
  else 2
/-- which cut decides it -/
def s_ltc (ia ib : Int × Int) (a b : s_V) : Option (Nat × Nat × Int) :=
  bif decide (ib.1 = ib.2) && s_isv a then some (0, a.2.toNat, ib.1) else
  bif decide (ia.1 = ia.2) && s_isv b then some (0, b.2.toNat, ia.1 + 1) else
  bif s_isv a && s_isv b then some (1, a.2.toNat, b.2.toNat) else none
def s_eq (ia ib : Int × Int) (a b : s_V) : Nat :=
  bif decide (ia.2 < ib.1) || decide (ib.2 < ia.1) then 0 else
  bif decide (ia.1 = ia.2) && decide (ib.1 = ib.2) then bif decide (ia.1 = ib.1) then 1 else 0 else
  bif s_isv a && s_isv b && Nat.beq a.2.toNat b.2.toNat then 1 else 2
def s_eqc (ia ib : Int × Int) (a b : s_V) : Option (Nat × Nat × Int) :=
  bif decide (ib.1 = ib.2) && s_isv a then (bif decide (ia.1 < ib.1) then some (0, a.2.toNat, ib.1) else some (0, a.2.toNat, ib.1 + 1)) else
  bif decide (ia.1 = ia.2) && s_isv b then (bif decide (ib.1 < ia.1) then some (0, b.2.toNat, ia.1) else some (0, b.2.toNat, ia.1 + 1)) else none
/-- a condition (0 =, 1 ≠, 2 <, 3 ≥, 4 >, 5 ≤): decided (0 no, 1 yes), or open -/
def s_not (k : Nat) : Nat := match k with
  | 0 => 1
  | 1 => 0
  | _ => 2
def s_cond (R : s_R) (ia ib : Int × Int) (a b : s_V) (cd : Nat) : Nat :=
  bif Nat.blt cd 2 then (bif Nat.beq cd 0 then s_eq ia ib a b else s_not (s_eq ia ib a b)) else
  bif Nat.blt cd 4 then (bif Nat.beq cd 2 then s_lt R ia ib a b else s_not (s_lt R ia ib a b)) else
  (bif Nat.beq cd 4 then s_lt R ib ia b a else s_not (s_lt R ib ia b a))
def s_condc (ia ib : Int × Int) (a b : s_V) (cd : Nat) : Option (Nat × Nat × Int) :=
  bif Nat.blt cd 2 then s_eqc ia ib a b else bif Nat.blt cd 4 then s_ltc ia ib a b else s_ltc ib ia b a
def s_cdn : ClassFile.Cond → Nat
  | .eq => 0
  | .ne => 1
  | .lt => 2
  | .ge => 3
  | .gt => 4
  | .le => 5
def s_jump : List s_I → Nat → Option (List s_I)
  | [], _ => none
  | r :: t, pc => bif Nat.beq r.1 pc then some (r :: t) else s_jump t pc
/-- the next instruction -/
def s_go (r : s_I) (t : List s_I) : Bool := match t with
  | [] => false
  | r' :: _ => Nat.beq r'.1 (r.1 + r.2.1)
def s_pool : Instr → Option Nat
  | .getfield i => some i
  | .putfield i => some i
  | .invokevirtual i => some i
  | .invokespecial i => some i
  | .invokestatic i => some i
  | .new i => some i
  | .anewarray i => some i
  | .ldc i => some i
  | .ldc_w i => some i
  | .ldc2_w i => some i
  | _ => none
