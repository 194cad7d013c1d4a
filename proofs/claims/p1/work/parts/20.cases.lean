-- the law's start, and its cases, run by the kernel
def s_F : Nat := 1000000
/-- how many bits 0 has -/
def s_ov (j : Nat) (as : List s_V) : Option s_V := match as with
  | [(0, n)] => bif Nat.beq j 136 && decide (n = 0) then some (0, 0) else none
  | _ => none
theorem s_ov_ok : ∀ j as v, s_ov j as = some v → ∀ K M, s_body s_codes s_ft s_mi s_F K j as M = some [(some v, M)] := by
  intro j as v h K M
  unfold s_ov at h
  split at h
  next n =>
    obtain ⟨h1, h2⟩ := s_bif h
    cases h2
    rw [Bool.and_eq_true, Nat.beq_eq, decide_eq_true_eq] at h1
    obtain ⟨rfl, rfl⟩ := h1
    rfl
  next => cases h
def s_K : s_Call := s_run s_codes s_ft s_mi s_F s_ov 30
def s_E0 : s_E := [(-2147483648, 2147483647), (-2147483648, 2147483647), (-2147483648, 2147483647), (-2147483648, 2147483647), (-2147483648, 2147483647)]
def s_X0 : s_X := (s_cl, [(0, (7, 0))], [], 0, 0, (s_E0, [], [], []))
/-- the law's loop, on a script of scr - 1 ints -/
def s_law (scr : Nat) (X : s_X) : Option (List s_X) := s_loop s_K s_cl s_ft s_mi scr 13 8 false 600002 7302232 s_F X
/-- an end with 1 -/
def s_good (Y : s_X) : Bool := match Y with
  | (r :: _, _, [v], cn, sn, _) => Nat.beq r.2.2.1 40 && (Nat.beq v.1 0 && (decide (v.2 = 1) && (Nat.ble cn 600002 && Nat.ble sn 7302232)))
  | _ => false
def s_eqC (c e : s_C) : Bool := match c, e with
  | (x, y, n, d, f), (x', y', n', d', f') => decide (x = x') && (Nat.beq y y' && (Nat.beq n n' && (decide (d = d') && decide (f = f'))))
def s_eqH : List s_C → List s_C → Bool
  | [], [] => true
  | c :: t, e :: u => s_eqC c e && s_eqH t u
  | _, _ => false
theorem s_eqH_eq : ∀ {l m : List s_C}, s_eqH l m = true → l = m
  | [], [], _ => rfl
  | c :: t, e :: u, h => by
    simp only [s_eqH, Bool.and_eq_true] at h
    obtain ⟨h1, h2⟩ := h
    obtain ⟨x, y, n, d, f⟩ := c
    obtain ⟨x', y', n', d', f'⟩ := e
    simp only [s_eqC, Bool.and_eq_true, decide_eq_true_eq, Nat.beq_eq] at h1
    obtain ⟨rfl, rfl, rfl, rfl, rfl⟩ := h1
    rw [s_eqH_eq h2]
  | [], _ :: _, h => by cases h
  | _ :: _, [], h => by cases h
/-- the run from the start comes to the switch with the state that is written out -/
def s_isl (r : Option (List s_X)) : Bool := match r with
  | some [(code, L, st, cn, sn, (E, R, B, H))] => Nat.beq (s_pc code) 39 && (decide (L = s_litL) && (decide (st = [(2, 5)]) && (Nat.beq cn s_litC.1 && (Nat.beq sn s_litC.2 && (decide (E = s_litE) && (R.isEmpty && (B.isEmpty && s_eqH H s_litH)))))))
  | _ => false
/-- the law from its switch on -/
def s_c39 : List s_I := match s_jump s_cl 39 with
  | some (r :: t) => (r.1, r.2.1, 25, r.2.2.2) :: t
  | _ => []
def s_lit (lo hi : Int) : s_X := (s_c39, s_litL, [(2, 5)], s_litC.1, s_litC.2, (s_litE.set 5 (lo, hi), [], [], s_litH))
def s_okr (lo hi : Int) : Bool := match s_law 6 (s_lit lo hi) with
  | some outs => outs.all s_good
  | none => false
def s_oks (scr : Nat) : Bool := match s_law scr s_X0 with
  | some outs => outs.all s_good
  | none => false
