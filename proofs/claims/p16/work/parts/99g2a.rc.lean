-- the class reads the roles told alone
set_option maxRecDepth 20000
/-- a run with more room below -/
theorem g_pre_up {CALL CALL' : Nat → List Value → g_H → Nat → Nat → (Option Value → g_H → Prop) → Prop} (H : ∀ j as h mc ms post, CALL j as h mc ms post → CALL' j as h mc ms post) {o nL : Nat} {ini : Bool} {bc bs : Nat} {cc : ByteArray} {P : g_S → Prop} {S : g_S} (hS : g_pre CALL o nL ini bc bs cc P S) : g_pre CALL' o nL ini bc bs cc P S := by
  obtain ⟨ins, len, hd, h⟩ := hS
  refine ⟨ins, len, hd, ?_⟩
  rcases h with h | h | h | h | h
  · exact Or.inl h
  · exact Or.inr (Or.inl h)
  · exact Or.inr (Or.inr (Or.inl h))
  · exact Or.inr (Or.inr (Or.inr (Or.inl h)))
  · refine Or.inr (Or.inr (Or.inr (Or.inr ?_)))
    rcases h with ⟨i, kd, j, n, v, ps, As, b, rest, q, nf, f, mc, ms, a1, a2, a3, a4, a5, a6, a7, a8, a9, a10, c⟩ | ⟨i, kd, j, n, v, ps, As, rest, mc, ms, a1, a2, a3, a4, a5, a6, a7, a8, a9, c⟩ | ⟨i, kd, j, n, v, ps, As, b, rest, mc, ms, a1, a2, a3, a4, a5, a6, a7, a8, a9, c⟩ | h
    · exact Or.inl ⟨i, kd, j, n, v, ps, As, b, rest, q, nf, f, mc, ms, a1, a2, a3, a4, a5, a6, a7, a8, a9, a10, H _ _ _ _ _ _ c⟩
    · exact Or.inr (Or.inl ⟨i, kd, j, n, v, ps, As, rest, mc, ms, a1, a2, a3, a4, a5, a6, a7, a8, a9, H _ _ _ _ _ _ c⟩)
    · exact Or.inr (Or.inr (Or.inl ⟨i, kd, j, n, v, ps, As, b, rest, mc, ms, a1, a2, a3, a4, a5, a6, a7, a8, a9, H _ _ _ _ _ _ c⟩))
    · exact Or.inr (Or.inr (Or.inr h))
theorem g_run_up : ∀ (d j : Nat) (as : List Value) (h : g_H) (mc ms : Nat) (post : Option Value → g_H → Prop), g_run d j as h mc ms post → g_run (d + 1) j as h mc ms post := by
  intro d
  induction d with
  | zero =>
    intro j as h mc ms post hr
    exact hr.elim
  | succ d ih =>
    intro j as h mc ms post hr
    obtain ⟨h1, h2, h3⟩ := hr
    exact ⟨h1, h2, fun P hend hcl => h3 P hend (fun S hS => hcl S (g_pre_up ih hS))⟩
theorem y_CS_up {R : y_R} {K : y_Call} {d : Nat} (h : y_CS R K (g_run d)) : ∀ k : Nat, y_CS R K (g_run (d + k)) := by
  intro k
  induction k with
  | zero => exact h
  | succ k ih => exact fun j vs N outs hK φ W β h xs a1 a2 a3 post hp => g_run_up _ _ _ _ _ _ _ (ih j vs N outs hK φ W β h xs a1 a2 a3 post hp)
/-- answers told -/
def y_eqA : Option y_V → Option y_V → Bool
  | none, none => true
  | some v, some w => y_eqV v w
  | _, _ => false
theorem y_eqA_eq : ∀ {a b : Option y_V}, y_eqA a b = true → a = b
  | none, none, _ => rfl
  | some v, some w, h => by rw [y_eqV_eq (v := v) (w := w) h]
  | none, some _, h => by cases h
  | some _, none, h => by cases h
def y_eqOl : List y_O → List y_O → Bool
  | [], [] => true
  | (a1, a2, a3) :: l, (b1, b2, b3) :: m => y_eqA a1 b1 && (y_eqL a2 b2 && (a3.isEmpty && (b3.isEmpty && y_eqOl l m)))
  | _, _ => false
theorem y_eqOl_eq : ∀ {l m : List y_O}, y_eqOl l m = true → l = m
  | [], [], _ => rfl
  | (a1, a2, a3) :: l, (b1, b2, b3) :: m, h => by
    have h : (y_eqA a1 b1 && (y_eqL a2 b2 && (a3.isEmpty && (b3.isEmpty && y_eqOl l m)))) = true := h
    rw [Bool.and_eq_true, Bool.and_eq_true, Bool.and_eq_true, Bool.and_eq_true, List.isEmpty_iff, List.isEmpty_iff] at h
    obtain ⟨h1, h2, h3, h4, h5⟩ := h
    rw [y_eqA_eq h1, y_eqL_eq h2, h3, h4, y_eqOl_eq h5]
  | [], _ :: _, h => by cases h
  | _ :: _, [], h => by cases h
def y_eqS : Option (List y_O) → List y_O → Bool
  | some l, m => y_eqOl l m
  | none, _ => false
theorem y_eqS_eq : ∀ {a : Option (List y_O)} {m : List y_O}, y_eqS a m = true → a = some m
  | some l, m, h => by rw [y_eqOl_eq (l := l) (m := m) h]
  | none, _, h => by cases h
abbrev y_E : Type := Nat × List y_V × List y_O
def y_tf2 (k : Nat) (vs : List y_V) : List y_E → Option (List y_O)
  | [] => none
  | (u1, u2, u3) :: t => bif Nat.ble u1 k && y_eqL u2 vs then some u3 else y_tf2 k vs t
theorem y_tf2_in {k : Nat} {vs : List y_V} {outs : List y_O} : ∀ {T : List y_E}, y_tf2 k vs T = some outs → ∃ u, u ≤ k ∧ (u, vs, outs) ∈ T
  | [], h => by cases h
  | (u1, u2, u3) :: t, h => by
    have h : (bif Nat.ble u1 k && y_eqL u2 vs then some u3 else y_tf2 k vs t) = some outs := h
    cases c : (Nat.ble u1 k && y_eqL u2 vs) with
    | true =>
      rw [c, cond_true] at h
      rw [Bool.and_eq_true] at c
      refine ⟨u1, Nat.le_of_ble_eq_true c.1, ?_⟩
      rw [y_eqL_eq c.2, Option.some.inj h]
      exact List.mem_cons_self
    | false =>
      rw [c, cond_false] at h
      obtain ⟨u, h1, h2⟩ := y_tf2_in h
      exact ⟨u, h1, List.mem_cons_of_mem _ h2⟩
def y_tf (k j : Nat) (vs : List y_V) : List (Nat × List y_E) → Option (List y_O)
  | [] => none
  | (g, l) :: t => bif Nat.beq g j then y_tf2 k vs l else y_tf k j vs t
theorem y_tf_in {k j : Nat} {vs : List y_V} {outs : List y_O} : ∀ {T : List (Nat × List y_E)}, y_tf k j vs T = some outs → ∃ l u, (j, l) ∈ T ∧ u ≤ k ∧ (u, vs, outs) ∈ l
  | [], h => by cases h
  | (g, l) :: t, h => by
    have h : (bif Nat.beq g j then y_tf2 k vs l else y_tf k j vs t) = some outs := h
    cases c : Nat.beq g j with
    | true =>
      rw [c, cond_true] at h
      obtain ⟨u, h1, h2⟩ := y_tf2_in h
      rw [Nat.eq_of_beq_eq_true c]
      exact ⟨l, u, List.mem_cons_self, h1, h2⟩
    | false =>
      rw [c, cond_false] at h
      obtain ⟨l', u, h0, h1, h2⟩ := y_tf_in h
      exact ⟨l', u, List.mem_cons_of_mem _ h0, h1, h2⟩
def y_th (f k : Nat) (T : List (Nat × List y_E)) : Nat → y_Call := fun d j vs N => match N with
  | [] => bif Nat.ble f (d + 1) then y_tf k j vs T else none
  | _ => none
def y_TP (f k : Nat) (T : List (Nat × List y_E)) : Prop := ∀ j l u vs outs, (j, l) ∈ T → u ≤ k → (u, vs, outs) ∈ l → ∃ K : y_Call, y_CS y_Rr K (g_run f) ∧ K j vs [] = some outs
theorem y_th_ok {f k : Nat} {T : List (Nat × List y_E)} (hT : y_TP f k T) (d : Nat) : y_CS y_Rr (y_th f k T d) (g_run (d + 1)) := by
  intro j vs N outs hK
  cases N with
  | cons a b => cases hK
  | nil =>
    have hK : (bif Nat.ble f (d + 1) then y_tf k j vs T else none) = some outs := hK
    cases c : Nat.ble f (d + 1) with
    | false =>
      rw [c, cond_false] at hK
      cases hK
    | true =>
      rw [c, cond_true] at hK
      obtain ⟨l, u, g0, g1, g2⟩ := y_tf_in hK
      obtain ⟨K, h1, h2⟩ := hT _ _ _ _ _ g0 g1 g2
      obtain ⟨m, e⟩ : ∃ m, d + 1 = f + m := ⟨d + 1 - f, by have := Nat.le_of_ble_eq_true c; omega⟩
      rw [e]
      exact y_CS_up h1 m j vs [] outs h2
def y_Kt (An : Nat → List y_B) (f k : Nat) (T : List (Nat × List y_E)) : Nat → y_Call := y_K y_Rr s_ft s_mi s_codes An 100000 (y_th f k T)
theorem y_Kt_ok {An : Nat → List y_B} {f k : Nat} {T : List (Nat × List y_E)} (hT : y_TP f k T) (d : Nat) : y_CS y_Rr (y_Kt An f k T d) (g_run d) := y_K_ok y_Rr_ok s_ft_ok s_mi_ok s_codes_ok (y_th_ok hT) d
/-- the entries of a tier are as told -/
def y_tier (An : Nat → List y_B) (f k f' : Nat) (T : List (Nat × List y_E)) : Bool := T.all (fun g => g.2.all (fun e => bif Nat.beq e.1 (k + 1) then y_eqS (y_Kt An f k T f' g.1 e.2.1 []) e.2.2 else true))
theorem y_TP1 {An : Nat → List y_B} {f f' k : Nat} {T : List (Nat × List y_E)} (hU : y_TP f k T) (hf : f ≤ f') (hT : y_tier An f k f' T = true) : y_TP f' (k + 1) T := by
  intro j l u vs outs h0 h1 h2
  by_cases c : u = k + 1
  · have h := List.all_eq_true.mp (List.all_eq_true.mp hT _ h0) _ h2
    have h : (bif Nat.beq u (k + 1) then y_eqS (y_Kt An f k T f' j vs []) outs else true) = true := h
    rw [show Nat.beq u (k + 1) = true from Nat.beq_eq.mpr c, cond_true] at h
    exact ⟨_, y_Kt_ok (An := An) hU f', y_eqS_eq h⟩
  · obtain ⟨K, g1, g2⟩ := hU j l u vs outs h0 (by omega) h2
    obtain ⟨m, rfl⟩ : ∃ m, f' = f + m := ⟨f' - f, by omega⟩
    exact ⟨K, y_CS_up g1 m, g2⟩
def y_t0 (T : List (Nat × List y_E)) : Bool := T.all (fun g => g.2.all (fun e => Nat.blt 0 e.1))
theorem y_TP0 {T : List (Nat × List y_E)} (h : y_t0 T = true) : y_TP 0 0 T := fun j l u vs outs h0 h1 h2 => by
  have h := List.all_eq_true.mp (List.all_eq_true.mp h _ h0) _ h2
  have h : Nat.blt 0 u = true := h
  rw [Nat.blt_eq] at h
  omega
def y_vr (r : Int) : y_V := (2, r, 0, 0, 0, 0, 0)
def y_vF : y_V := (0, -2147483648, 2147483647, 0, 0, 0, 0)
def y_vi (l u : Int) : y_V := (0, l, u, 0, 0, 0, 0)
def y_eo (k : Nat) (as : List y_V) (l : List (Option y_V)) : y_E := (k, as, l.map (fun o => (o, as, [])))
def y_TT : List (Nat × List y_E) := [(60, [y_eo 1 [y_vr 10, (1, (-9223372036854775808), 9223372036854775807, 0, 0, 0, 0)] [none],
    y_eo 1 [y_vr 10, (1, (-2147483648), 2147483647, 0, 0, 0, 0)] [none],
    y_eo 1 [y_vr 10, (1, 10, 400, 0, 0, 0, 0)] [none]]),
  (197, [y_eo 1 [y_vr 9, y_vr 1, y_vi 0 2147483646, y_vi (-1) 2147483647] [some (y_vi 0 0), some (y_vi 1 1)],
    y_eo 2 [y_vr 9, y_vr 1, y_vi (-1) 2147483647, y_vi 0 2147483646] [some (y_vi 0 0), some (y_vi 1 1)],
    y_eo 2 [y_vr 9, y_vr 1, y_vi 0 2147483646, y_vi 0 2147483646] [some (y_vi 0 0), some (y_vi 1 1)]]),
  (37, [y_eo 1 [y_vr 1, y_vF] [some (y_vF)],
    y_eo 1 [y_vr 1, y_vi 0 2147483646] [some (y_vF)]]),
  (51, [y_eo 1 [y_vr 2, y_vF] [some ((1, (-9223372036854775808), 9223372036854775807, 0, 0, 0, 0))],
    y_eo 1 [y_vr 2, y_vi 0 9] [some ((1, (-9223372036854775808), 9223372036854775807, 0, 0, 0, 0))]]),
  (55, [y_eo 1 [(1, (-2147483648), 2147483647, 0, 0, 0, 0), (1, (-2147483648), 2147483647, 0, 0, 0, 0)] [some ((1, (-9223372036854775808), 9223372036854775807, 0, 0, 0, 0))],
    y_eo 2 [(1, (-9223372036854775808), 9223372036854775807, 0, 0, 0, 0), (1, (-9223372036854775808), 9223372036854775807, 0, 0, 0, 0)] [some ((1, (-9223372036854775808), 9223372036854775807, 0, 0, 0, 0))]]),
  (128, [(1, [y_vr 6, (0, 1, 401, 0, 1, 0, 1), (1, (-343597383680000), 343597383680000, 0, 0, 0, 0)], [(some (y_vi (-1) 400), [y_vr 6, (0, 1, 401, 0, 0, 0, 1), (1, (-343597383680000), 343597383680000, 0, 0, 0, 0)], [])]),
    y_eo 1 [y_vr 6, y_vi 10 400, (1, (-343597383680000), 343597383680000, 0, 0, 0, 0)] [some (y_vi (-1) 400)]]),
  (14, [(1, [y_vF], [(some (y_vi 0 0), [y_vF], []), (some (y_vi 1 1), [y_vi 0 9], [])])]),
  (21, [y_eo 1 [(1, (-9223372036854775808), 9223372036854775807, 0, 0, 0, 0), (1, (-9223372036854775808), 9223372036854775807, 0, 0, 0, 0)] [some ((1, (-9223372036854775808), 9223372036854775807, 0, 0, 0, 0))]]),
  (23, [y_eo 1 [y_vr 34, y_vF] [some (y_vF)]]),
  (28, [y_eo 1 [y_vr 1, y_vi 0 2147483646] [some (y_vF)]]),
  (40, [y_eo 1 [y_vr 1, y_vi 0 2147483646] [some (y_vF)]]),
  (41, [y_eo 1 [y_vr 1, y_vi 0 2147483646] [some (y_vF)]]),
  (54, [y_eo 1 [y_vr 2, y_vF] [some ((1, (-9223372036854775808), 9223372036854775807, 0, 0, 0, 0))]]),
  (56, [y_eo 1 [(1, (-9223372036854775808), 9223372036854775807, 0, 0, 0, 0)] [some ((1, (-9223372036854775808), 9223372036854775807, 0, 0, 0, 0))]]),
  (59, [y_eo 1 [y_vr 10] [none]]),
  (64, [y_eo 1 [y_vr 11, y_vi 0 2147483646] [some ((1, (-2147483648), 2147483647, 0, 0, 0, 0))]]),
  (65, [y_eo 1 [y_vr 11, y_vi 0 2147483646] [some ((1, (-2147483648), 2147483647, 0, 0, 0, 0))]]),
  (89, [y_eo 1 [y_vr 3, y_vi 0 2147483646] [some (y_vF)]]),
  (94, [y_eo 1 [y_vr 3, (0, (-2147483648), 2147483646, 0, 0, 0, (-1))] [none]]),
  (109, [y_eo 1 [y_vr 3, y_vi 0 2147483647] [some (y_vi 0 2147483647)]]),
  (127, [y_eo 1 [y_vr 6, y_vi 10 400, y_vi 10 400, (1, (-2147483648), 2147483647, 0, 0, 0, 0), (1, (-2147483648), 2147483647, 0, 0, 0, 0)] [some ((1, (-343597383680000), 343597383680000, 0, 0, 0, 0))]]),
  (136, [y_eo 1 [y_vF] [some (y_vF)]]),
  (142, [y_eo 1 [y_vr 1, y_vi 0 2147483646] [some (y_vF)]]),
  (144, [y_eo 1 [y_vr 1, y_vi 0 9, y_vF] [some ((1, (-9223372036854775808), 9223372036854775807, 0, 0, 0, 0))]]),
  (50, [y_eo 2 [y_vr 2, y_vF] [some (y_vi 0 0), some (y_vi 1 1)]]),
  (74, [y_eo 2 [y_vr 3, y_vr 1, y_vi 1 9] [some (y_vi 0 0), some (y_vi 1 1)]]),
  (92, [y_eo 2 [y_vr 3, y_vF] [some (y_vi 0 0), some (y_vi 1 1)]]),
  (96, [y_eo 2 [(1, (-9223372036854775808), 9223372036854775807, 0, 0, 0, 0), (1, (-9223372036854775808), 9223372036854775807, 0, 0, 0, 0), (1, (-9223372036854775808), 9223372036854775807, 0, 0, 0, 0), (1, (-9223372036854775808), 9223372036854775807, 0, 0, 0, 0)] [some ((1, (-9223372036854775808), 9223372036854775807, 0, 0, 0, 0))]]),
  (53, [y_eo 3 [y_vr 2, y_vr 1, y_vF, y_vF] [none]]),
  (58, [y_eo 3 [y_vr 2, y_vr 1, y_vF, y_vF] [some (y_vi 1 1), some (y_vi 0 0)]]),
  (86, [y_eo 3 [y_vr 0, y_vF, y_vF] [some (y_vi (-4) 0)]]),
  (95, [y_eo 3 [y_vr 3, y_vF] [some (y_vi 0 0), some (y_vi 1 1)]]),
  (195, [y_eo 3 [y_vr 9, y_vr 1] [some (y_vF)]]),
  (196, [y_eo 3 [y_vr 9, y_vr 1, y_vi (-1) 2147483647] [some (y_vi (-1) 2147483647)]]),
  (47, [y_eo 4 [y_vr 2, y_vr 1, y_vi (-1) (-1)] [some (y_vi (-5) 0)]]),
  (57, [y_eo 4 [y_vr 2, y_vr 1, y_vi 0 2147483646] [some (y_vi 0 0), some (y_vi 1 1)]]),
  (91, [y_eo 4 [y_vr 3] [some (y_vi 0 0), some (y_vi 1 1)]]),
  (46, [y_eo 5 [y_vr 0, y_vF] [some (y_vi (-5) 0)]]),
  (103, [y_eo 5 [y_vr 3] [some (y_vi 1 1), some (y_vi 0 0)]]),
  (68, [y_eo 6 [y_vr 0, y_vF] [some (y_vi (-5) 0)]])]
theorem y_P0 : y_TP 0 0 y_TT := y_TP0 (by decide +kernel)
def y_Fs : List (Nat × Nat × Nat) := [(0, 0, 3), (3, 1, 8), (8, 2, 12), (12, 3, 14), (14, 4, 16), (16, 5, 18)]
set_option maxRecDepth 100000 in
theorem y_Tk : y_Fs.all (fun q => y_tier y_An q.1 q.2.1 q.2.2 y_TT) = true := by decide +kernel
theorem y_P1 : y_TP 3 1 y_TT := y_TP1 (An := y_An) y_P0 (by decide) (List.all_eq_true.mp y_Tk (0, 0, 3) (List.mem_of_getElem? (i := 0) rfl))
theorem y_P2 : y_TP 8 2 y_TT := y_TP1 (An := y_An) y_P1 (by decide) (List.all_eq_true.mp y_Tk (3, 1, 8) (List.mem_of_getElem? (i := 1) rfl))
theorem y_P3 : y_TP 12 3 y_TT := y_TP1 (An := y_An) y_P2 (by decide) (List.all_eq_true.mp y_Tk (8, 2, 12) (List.mem_of_getElem? (i := 2) rfl))
theorem y_P4 : y_TP 14 4 y_TT := y_TP1 (An := y_An) y_P3 (by decide) (List.all_eq_true.mp y_Tk (12, 3, 14) (List.mem_of_getElem? (i := 3) rfl))
theorem y_P5 : y_TP 16 5 y_TT := y_TP1 (An := y_An) y_P4 (by decide) (List.all_eq_true.mp y_Tk (14, 4, 16) (List.mem_of_getElem? (i := 4) rfl))
theorem y_P6 : y_TP 18 6 y_TT := y_TP1 (An := y_An) y_P5 (by decide) (List.all_eq_true.mp y_Tk (16, 5, 18) (List.mem_of_getElem? (i := 5) rfl))
def y_Krh : Nat → y_Call := y_Kt y_An 18 6 y_TT
theorem y_Krh_ok (d : Nat) : y_CS y_Rr (y_Krh d) (g_run d) := y_Kt_ok y_P6 d
def y_TTd : List (Nat × List y_E) := [(159, [y_eo 3 [y_vr 7, y_vF, y_vi 1 2147483647, (0, 13, 13, 0, 0, 0, 13)] [some (y_vi 0 1), some (y_vi 1 1)],
    y_eo 4 [y_vr 7, y_vF, y_vi 1 2147483647, (0, 12, 12, 0, 0, 0, 12)] [some (y_vi 0 1), some (y_vi 1 1)],
    y_eo 5 [y_vr 7, y_vF, y_vi 1 2147483647, (0, 11, 11, 0, 0, 0, 11)] [some (y_vi 0 1), some (y_vi 1 1)],
    y_eo 6 [y_vr 7, y_vF, y_vi 1 2147483647, (0, 10, 10, 0, 0, 0, 10)] [some (y_vi 0 1), some (y_vi 1 1)],
    y_eo 7 [y_vr 7, y_vF, y_vi 1 2147483647, (0, 9, 9, 0, 0, 0, 9)] [some (y_vi 0 1), some (y_vi 1 1)],
    y_eo 8 [y_vr 7, y_vF, y_vi 1 2147483647, (0, 8, 8, 0, 0, 0, 8)] [some (y_vi 0 1), some (y_vi 1 1)],
    y_eo 9 [y_vr 7, y_vF, y_vi 1 2147483647, (0, 7, 7, 0, 0, 0, 7)] [some (y_vi 0 1), some (y_vi 1 1)],
    y_eo 10 [y_vr 7, y_vF, y_vi 1 2147483647, (0, 6, 6, 0, 0, 0, 6)] [some (y_vi 0 1), some (y_vi 1 1)],
    y_eo 11 [y_vr 7, y_vF, y_vi 1 2147483647, (0, 5, 5, 0, 0, 0, 5)] [some (y_vi 0 1), some (y_vi 1 1)],
    y_eo 12 [y_vr 7, y_vF, y_vi 1 2147483647, (0, 4, 4, 0, 0, 0, 4)] [some (y_vi 0 1), some (y_vi 1 1)],
    y_eo 13 [y_vr 7, y_vF, y_vi 1 2147483647, (0, 3, 3, 0, 0, 0, 3)] [some (y_vi 0 1), some (y_vi 1 1)],
    y_eo 14 [y_vr 7, y_vF, y_vi 1 2147483647, (0, 2, 2, 0, 0, 0, 2)] [some (y_vi 0 1), some (y_vi 1 1)],
    y_eo 15 [y_vr 7, y_vF, y_vi 1 2147483647, (0, 1, 1, 0, 0, 0, 1)] [some (y_vi 0 1), some (y_vi 1 1)],
    (17, [y_vr 7, y_vF, y_vF, y_vi 0 0], [(some (y_vi 0 1), [y_vr 7, y_vF, y_vF, y_vi 0 0], []), (some (y_vi 1 1), [y_vr 7, y_vF, y_vi 1 2147483647, y_vi 0 0], [])]),
    y_eo 17 [y_vr 7, y_vF, y_vi 1 2147483647, y_vi 0 0] [some (y_vi 0 1), some (y_vi 1 1)]]),
  (18, [y_eo 1 [y_vr 42, y_vi (-1) 2147483647, y_vi (-1) (-1)] [none],
    y_eo 1 [y_vr 42, y_vi (-1) 2147483647, (0, 0, 2147483646, 0, 0, 0, (-1))] [none]]),
  (23, [y_eo 1 [y_vr 41, y_vi (-1) 2147483647] [some (y_vF)],
    y_eo 1 [y_vr 41, y_vi 0 2147483646] [some (y_vF)]]),
  (37, [y_eo 1 [y_vr 1, y_vi 0 2147483646] [some (y_vF)],
    y_eo 1 [y_vr 1, y_vi 1 2147483646] [some (y_vF)]]),
  (60, [y_eo 1 [y_vr 10, (1, (-2147483648), 2147483647, 0, 0, 0, 0)] [none],
    y_eo 1 [y_vr 10, (1, (-1), 2147483647, 0, 0, 0, 0)] [none]]),
  (158, [y_eo 2 [y_vr 7, y_vi (-2147483648) (-1)] [some (y_vF)],
    y_eo 2 [y_vr 7, y_vi 1 2147483647] [some (y_vF)]]),
  (161, [y_eo 2 [y_vr 7, y_vi (-1) 2147483647, y_vi 1 2147483647] [some (y_vF)],
    y_eo 2 [y_vr 7, y_vi 0 2147483646, y_vF] [some (y_vF)]]),
  (40, [y_eo 1 [y_vr 1, y_vi 0 2147483646] [some (y_vF)]]),
  (41, [y_eo 1 [y_vr 1, y_vi 0 2147483646] [some (y_vF)]]),
  (136, [y_eo 1 [y_vF] [some (y_vF)]]),
  (144, [y_eo 1 [y_vr 1, y_vF, y_vF] [some ((1, (-9223372036854775808), 9223372036854775807, 0, 0, 0, 0))]]),
  (154, [y_eo 1 [y_vr 7, y_vF, y_vF] [none]]),
  (39, [y_eo 2 [y_vr 1, y_vi 0 2147483646] [some (y_vF)]]),
  (160, [y_eo 2 [y_vr 7, y_vF, y_vi 1 2147483647] [some (y_vi (-1) 2147483647)]]),
  (143, [y_eo 3 [y_vr 1, y_vi 0 2147483646, y_vi 1 2147483646] [some (y_vi 0 0), some (y_vi 1 1)]]),
  (157, [(16, [y_vr 7, y_vF, y_vi 1 2147483647, (0, 1, 1, 0, 1, 0, 1)], [(some (y_vi 1 1), [y_vr 7, y_vF, y_vi 1 2147483647, (0, 1, 1, 0, 0, 0, 1)], []), (some (y_vi 0 0), [y_vr 7, y_vF, y_vi 1 2147483647, (0, 1, 1, 0, 0, 0, 1)], [])])])]
theorem y_Pd0 : y_TP 0 0 y_TTd := y_TP0 (by decide +kernel)
def y_Fsd : List (Nat × Nat × Nat) := [(0, 0, 2), (2, 1, 5), (5, 2, 8), (8, 3, 10), (10, 4, 12), (12, 5, 14), (14, 6, 16), (16, 7, 18), (18, 8, 20), (20, 9, 22), (22, 10, 24), (24, 11, 26), (26, 12, 28), (28, 13, 30), (30, 14, 32), (32, 15, 33), (33, 16, 36)]
set_option maxRecDepth 100000 in
theorem y_Tkd : y_Fsd.all (fun q => y_tier y_An2 q.1 q.2.1 q.2.2 y_TTd) = true := by decide +kernel
theorem y_Pd1 : y_TP 2 1 y_TTd := y_TP1 (An := y_An2) y_Pd0 (by decide) (List.all_eq_true.mp y_Tkd (0, 0, 2) (List.mem_of_getElem? (i := 0) rfl))
theorem y_Pd2 : y_TP 5 2 y_TTd := y_TP1 (An := y_An2) y_Pd1 (by decide) (List.all_eq_true.mp y_Tkd (2, 1, 5) (List.mem_of_getElem? (i := 1) rfl))
theorem y_Pd3 : y_TP 8 3 y_TTd := y_TP1 (An := y_An2) y_Pd2 (by decide) (List.all_eq_true.mp y_Tkd (5, 2, 8) (List.mem_of_getElem? (i := 2) rfl))
theorem y_Pd4 : y_TP 10 4 y_TTd := y_TP1 (An := y_An2) y_Pd3 (by decide) (List.all_eq_true.mp y_Tkd (8, 3, 10) (List.mem_of_getElem? (i := 3) rfl))
theorem y_Pd5 : y_TP 12 5 y_TTd := y_TP1 (An := y_An2) y_Pd4 (by decide) (List.all_eq_true.mp y_Tkd (10, 4, 12) (List.mem_of_getElem? (i := 4) rfl))
theorem y_Pd6 : y_TP 14 6 y_TTd := y_TP1 (An := y_An2) y_Pd5 (by decide) (List.all_eq_true.mp y_Tkd (12, 5, 14) (List.mem_of_getElem? (i := 5) rfl))
theorem y_Pd7 : y_TP 16 7 y_TTd := y_TP1 (An := y_An2) y_Pd6 (by decide) (List.all_eq_true.mp y_Tkd (14, 6, 16) (List.mem_of_getElem? (i := 6) rfl))
theorem y_Pd8 : y_TP 18 8 y_TTd := y_TP1 (An := y_An2) y_Pd7 (by decide) (List.all_eq_true.mp y_Tkd (16, 7, 18) (List.mem_of_getElem? (i := 7) rfl))
theorem y_Pd9 : y_TP 20 9 y_TTd := y_TP1 (An := y_An2) y_Pd8 (by decide) (List.all_eq_true.mp y_Tkd (18, 8, 20) (List.mem_of_getElem? (i := 8) rfl))
theorem y_Pd10 : y_TP 22 10 y_TTd := y_TP1 (An := y_An2) y_Pd9 (by decide) (List.all_eq_true.mp y_Tkd (20, 9, 22) (List.mem_of_getElem? (i := 9) rfl))
theorem y_Pd11 : y_TP 24 11 y_TTd := y_TP1 (An := y_An2) y_Pd10 (by decide) (List.all_eq_true.mp y_Tkd (22, 10, 24) (List.mem_of_getElem? (i := 10) rfl))
theorem y_Pd12 : y_TP 26 12 y_TTd := y_TP1 (An := y_An2) y_Pd11 (by decide) (List.all_eq_true.mp y_Tkd (24, 11, 26) (List.mem_of_getElem? (i := 11) rfl))
theorem y_Pd13 : y_TP 28 13 y_TTd := y_TP1 (An := y_An2) y_Pd12 (by decide) (List.all_eq_true.mp y_Tkd (26, 12, 28) (List.mem_of_getElem? (i := 12) rfl))
theorem y_Pd14 : y_TP 30 14 y_TTd := y_TP1 (An := y_An2) y_Pd13 (by decide) (List.all_eq_true.mp y_Tkd (28, 13, 30) (List.mem_of_getElem? (i := 13) rfl))
theorem y_Pd15 : y_TP 32 15 y_TTd := y_TP1 (An := y_An2) y_Pd14 (by decide) (List.all_eq_true.mp y_Tkd (30, 14, 32) (List.mem_of_getElem? (i := 14) rfl))
theorem y_Pd16 : y_TP 33 16 y_TTd := y_TP1 (An := y_An2) y_Pd15 (by decide) (List.all_eq_true.mp y_Tkd (32, 15, 33) (List.mem_of_getElem? (i := 15) rfl))
theorem y_Pd17 : y_TP 36 17 y_TTd := y_TP1 (An := y_An2) y_Pd16 (by decide) (List.all_eq_true.mp y_Tkd (33, 16, 36) (List.mem_of_getElem? (i := 16) rfl))
def y_Krdh : Nat → y_Call := y_Kt y_An2 36 17 y_TTd
theorem y_Krdh_ok (d : Nat) : y_CS y_Rr (y_Krdh d) (g_run d) := y_Kt_ok y_Pd17 d
set_option maxRecDepth 100000 in
theorem y_sr_0 : [((121 : Nat), ([(2, 0, 0, 0, 0, 0, 0), (0, (-2147483648), 2147483647, 0, 0, 0, 0), (0, (-2147483648), 2147483647, 0, 0, 0, 0)] : List y_V)),
  ((137 : Nat), ([(2, 0, 0, 0, 0, 0, 0), (0, (-2147483648), 2147483647, 0, 0, 0, 0), (0, (-2147483648), 2147483647, 0, 0, 0, 0), (0, (-2147483648), 2147483647, 0, 0, 0, 0)] : List y_V)),
  ((162 : Nat), ([(2, 0, 0, 0, 0, 0, 0), (0, (-2147483648), 2147483647, 0, 0, 0, 0), (0, (-2147483648), 2147483647, 0, 0, 0, 0), (0, (-2147483648), 2147483647, 0, 0, 0, 0), (0, (-2147483648), 2147483647, 0, 0, 0, 0)] : List y_V)),
  ((163 : Nat), ([(2, 0, 0, 0, 0, 0, 0), (0, (-2147483648), 2147483647, 0, 0, 0, 0), (0, (-2147483648), 2147483647, 0, 0, 0, 0)] : List y_V)),
  ((167 : Nat), ([(2, 0, 0, 0, 0, 0, 0), (0, (-2147483648), 2147483647, 0, 0, 0, 0)] : List y_V)),
  ((179 : Nat), ([(2, 0, 0, 0, 0, 0, 0), (0, (-2147483648), 2147483647, 0, 0, 0, 0), (0, 0, 1, 0, 0, 0, 0)] : List y_V)),
  ((181 : Nat), ([(2, 0, 0, 0, 0, 0, 0), (0, (-2147483648), 2147483647, 0, 0, 0, 0), (0, 0, 1, 0, 0, 0, 0)] : List y_V)),
  ((183 : Nat), ([(2, 0, 0, 0, 0, 0, 0), (0, (-2147483648), 2147483647, 0, 0, 0, 0)] : List y_V)),
  ((185 : Nat), ([(2, 0, 0, 0, 0, 0, 0)] : List y_V)),
  ((188 : Nat), ([(2, 0, 0, 0, 0, 0, 0)] : List y_V)),
  ((190 : Nat), ([(2, 0, 0, 0, 0, 0, 0)] : List y_V)),
  ((192 : Nat), ([(2, 0, 0, 0, 0, 0, 0), (0, (-2147483648), 2147483647, 0, 0, 0, 0), (0, (-2147483648), 2147483647, 0, 0, 0, 0), (0, (-2147483648), 2147483647, 0, 0, 0, 0), (0, (-2147483648), 2147483647, 0, 0, 0, 0)] : List y_V)),
  ((207 : Nat), ([(2, 0, 0, 0, 0, 0, 0), (0, (-2147483648), 2147483647, 0, 0, 0, 0)] : List y_V))].all (fun q => (y_Kr 60 q.1 q.2 []).isSome) = true := by decide +kernel
theorem y_sr_121 : (y_Kr 60 121 [(2, 0, 0, 0, 0, 0, 0), (0, (-2147483648), 2147483647, 0, 0, 0, 0), (0, (-2147483648), 2147483647, 0, 0, 0, 0)] []).isSome = true := List.all_eq_true.mp y_sr_0 (121, [(2, 0, 0, 0, 0, 0, 0), (0, (-2147483648), 2147483647, 0, 0, 0, 0), (0, (-2147483648), 2147483647, 0, 0, 0, 0)]) (List.mem_of_getElem? (i := 0) rfl)
theorem y_sr_137 : (y_Kr 60 137 [(2, 0, 0, 0, 0, 0, 0), (0, (-2147483648), 2147483647, 0, 0, 0, 0), (0, (-2147483648), 2147483647, 0, 0, 0, 0), (0, (-2147483648), 2147483647, 0, 0, 0, 0)] []).isSome = true := List.all_eq_true.mp y_sr_0 (137, [(2, 0, 0, 0, 0, 0, 0), (0, (-2147483648), 2147483647, 0, 0, 0, 0), (0, (-2147483648), 2147483647, 0, 0, 0, 0), (0, (-2147483648), 2147483647, 0, 0, 0, 0)]) (List.mem_of_getElem? (i := 1) rfl)
theorem y_sr_162 : (y_Kr 60 162 [(2, 0, 0, 0, 0, 0, 0), (0, (-2147483648), 2147483647, 0, 0, 0, 0), (0, (-2147483648), 2147483647, 0, 0, 0, 0), (0, (-2147483648), 2147483647, 0, 0, 0, 0), (0, (-2147483648), 2147483647, 0, 0, 0, 0)] []).isSome = true := List.all_eq_true.mp y_sr_0 (162, [(2, 0, 0, 0, 0, 0, 0), (0, (-2147483648), 2147483647, 0, 0, 0, 0), (0, (-2147483648), 2147483647, 0, 0, 0, 0), (0, (-2147483648), 2147483647, 0, 0, 0, 0), (0, (-2147483648), 2147483647, 0, 0, 0, 0)]) (List.mem_of_getElem? (i := 2) rfl)
theorem y_sr_163 : (y_Kr 60 163 [(2, 0, 0, 0, 0, 0, 0), (0, (-2147483648), 2147483647, 0, 0, 0, 0), (0, (-2147483648), 2147483647, 0, 0, 0, 0)] []).isSome = true := List.all_eq_true.mp y_sr_0 (163, [(2, 0, 0, 0, 0, 0, 0), (0, (-2147483648), 2147483647, 0, 0, 0, 0), (0, (-2147483648), 2147483647, 0, 0, 0, 0)]) (List.mem_of_getElem? (i := 3) rfl)
theorem y_sr_167 : (y_Kr 60 167 [(2, 0, 0, 0, 0, 0, 0), (0, (-2147483648), 2147483647, 0, 0, 0, 0)] []).isSome = true := List.all_eq_true.mp y_sr_0 (167, [(2, 0, 0, 0, 0, 0, 0), (0, (-2147483648), 2147483647, 0, 0, 0, 0)]) (List.mem_of_getElem? (i := 4) rfl)
theorem y_sr_179 : (y_Kr 60 179 [(2, 0, 0, 0, 0, 0, 0), (0, (-2147483648), 2147483647, 0, 0, 0, 0), (0, 0, 1, 0, 0, 0, 0)] []).isSome = true := List.all_eq_true.mp y_sr_0 (179, [(2, 0, 0, 0, 0, 0, 0), (0, (-2147483648), 2147483647, 0, 0, 0, 0), (0, 0, 1, 0, 0, 0, 0)]) (List.mem_of_getElem? (i := 5) rfl)
theorem y_sr_181 : (y_Kr 60 181 [(2, 0, 0, 0, 0, 0, 0), (0, (-2147483648), 2147483647, 0, 0, 0, 0), (0, 0, 1, 0, 0, 0, 0)] []).isSome = true := List.all_eq_true.mp y_sr_0 (181, [(2, 0, 0, 0, 0, 0, 0), (0, (-2147483648), 2147483647, 0, 0, 0, 0), (0, 0, 1, 0, 0, 0, 0)]) (List.mem_of_getElem? (i := 6) rfl)
theorem y_sr_183 : (y_Kr 60 183 [(2, 0, 0, 0, 0, 0, 0), (0, (-2147483648), 2147483647, 0, 0, 0, 0)] []).isSome = true := List.all_eq_true.mp y_sr_0 (183, [(2, 0, 0, 0, 0, 0, 0), (0, (-2147483648), 2147483647, 0, 0, 0, 0)]) (List.mem_of_getElem? (i := 7) rfl)
theorem y_sr_185 : (y_Kr 60 185 [(2, 0, 0, 0, 0, 0, 0)] []).isSome = true := List.all_eq_true.mp y_sr_0 (185, [(2, 0, 0, 0, 0, 0, 0)]) (List.mem_of_getElem? (i := 8) rfl)
theorem y_sr_188 : (y_Kr 60 188 [(2, 0, 0, 0, 0, 0, 0)] []).isSome = true := List.all_eq_true.mp y_sr_0 (188, [(2, 0, 0, 0, 0, 0, 0)]) (List.mem_of_getElem? (i := 9) rfl)
theorem y_sr_190 : (y_Kr 60 190 [(2, 0, 0, 0, 0, 0, 0)] []).isSome = true := List.all_eq_true.mp y_sr_0 (190, [(2, 0, 0, 0, 0, 0, 0)]) (List.mem_of_getElem? (i := 10) rfl)
theorem y_sr_192 : (y_Kr 60 192 [(2, 0, 0, 0, 0, 0, 0), (0, (-2147483648), 2147483647, 0, 0, 0, 0), (0, (-2147483648), 2147483647, 0, 0, 0, 0), (0, (-2147483648), 2147483647, 0, 0, 0, 0), (0, (-2147483648), 2147483647, 0, 0, 0, 0)] []).isSome = true := List.all_eq_true.mp y_sr_0 (192, [(2, 0, 0, 0, 0, 0, 0), (0, (-2147483648), 2147483647, 0, 0, 0, 0), (0, (-2147483648), 2147483647, 0, 0, 0, 0), (0, (-2147483648), 2147483647, 0, 0, 0, 0), (0, (-2147483648), 2147483647, 0, 0, 0, 0)]) (List.mem_of_getElem? (i := 11) rfl)
theorem y_sr_207 : (y_Kr 60 207 [(2, 0, 0, 0, 0, 0, 0), (0, (-2147483648), 2147483647, 0, 0, 0, 0)] []).isSome = true := List.all_eq_true.mp y_sr_0 (207, [(2, 0, 0, 0, 0, 0, 0), (0, (-2147483648), 2147483647, 0, 0, 0, 0)]) (List.mem_of_getElem? (i := 12) rfl)
set_option maxRecDepth 100000 in
theorem y_sr_h : [((45 : Nat), ([(2, 0, 0, 0, 0, 0, 0), (0, (-2147483648), 2147483647, 0, 0, 0, 0)] : List y_V)),
  ((61 : Nat), ([(2, 0, 0, 0, 0, 0, 0)] : List y_V)),
  ((62 : Nat), ([(2, 0, 0, 0, 0, 0, 0)] : List y_V)),
  ((63 : Nat), ([(2, 0, 0, 0, 0, 0, 0), (0, (-2147483648), 2147483647, 0, 0, 0, 0)] : List y_V)),
  ((66 : Nat), ([(2, 0, 0, 0, 0, 0, 0), (0, (-2147483648), 2147483647, 0, 0, 0, 0), (0, (-2147483648), 2147483647, 0, 0, 0, 0)] : List y_V)),
  ((72 : Nat), ([(2, 0, 0, 0, 0, 0, 0), (0, (-2147483648), 2147483647, 0, 0, 0, 0), (0, (-2147483648), 2147483647, 0, 0, 0, 0)] : List y_V)),
  ((73 : Nat), ([(2, 0, 0, 0, 0, 0, 0), (0, (-2147483648), 2147483647, 0, 0, 0, 0)] : List y_V)),
  ((85 : Nat), ([(2, 0, 0, 0, 0, 0, 0), (0, (-2147483648), 2147483647, 0, 0, 0, 0), (0, (-2147483648), 2147483647, 0, 0, 0, 0)] : List y_V)),
  ((101 : Nat), ([(2, 0, 0, 0, 0, 0, 0), (0, (-2147483648), 2147483647, 0, 0, 0, 0), (0, (-2147483648), 2147483647, 0, 0, 0, 0), (0, (-2147483648), 2147483647, 0, 0, 0, 0)] : List y_V)),
  ((106 : Nat), ([(2, 0, 0, 0, 0, 0, 0), (0, (-2147483648), 2147483647, 0, 0, 0, 0)] : List y_V)),
  ((107 : Nat), ([(2, 0, 0, 0, 0, 0, 0), (0, (-2147483648), 2147483647, 0, 0, 0, 0), (0, (-2147483648), 2147483647, 0, 0, 0, 0)] : List y_V)),
  ((122 : Nat), ([(2, 0, 0, 0, 0, 0, 0), (0, (-2147483648), 2147483647, 0, 0, 0, 0), (0, (-2147483648), 2147483647, 0, 0, 0, 0)] : List y_V)),
  ((129 : Nat), ([(2, 0, 0, 0, 0, 0, 0), (0, (-2147483648), 2147483647, 0, 0, 0, 0)] : List y_V)),
  ((132 : Nat), ([(2, 0, 0, 0, 0, 0, 0), (0, (-2147483648), 2147483647, 0, 0, 0, 0)] : List y_V)),
  ((149 : Nat), ([(2, 0, 0, 0, 0, 0, 0)] : List y_V)),
  ((164 : Nat), ([(2, 0, 0, 0, 0, 0, 0), (0, (-2147483648), 2147483647, 0, 0, 0, 0), (0, (-2147483648), 2147483647, 0, 0, 0, 0), (0, (-2147483648), 2147483647, 0, 0, 0, 0)] : List y_V)),
  ((166 : Nat), ([(2, 0, 0, 0, 0, 0, 0), (0, (-2147483648), 2147483647, 0, 0, 0, 0), (0, (-2147483648), 2147483647, 0, 0, 0, 0), (0, (-2147483648), 2147483647, 0, 0, 0, 0)] : List y_V)),
  ((194 : Nat), ([(2, 0, 0, 0, 0, 0, 0)] : List y_V)),
  ((205 : Nat), ([(2, 0, 0, 0, 0, 0, 0), (0, (-2147483648), 2147483647, 0, 0, 0, 0), (0, (-2147483648), 2147483647, 0, 0, 0, 0)] : List y_V))].all (fun q => (y_Krh 60 q.1 q.2 []).isSome) = true := by decide +kernel
theorem y_sr_45 : (y_Krh 60 45 [(2, 0, 0, 0, 0, 0, 0), (0, (-2147483648), 2147483647, 0, 0, 0, 0)] []).isSome = true := List.all_eq_true.mp y_sr_h (45, [(2, 0, 0, 0, 0, 0, 0), (0, (-2147483648), 2147483647, 0, 0, 0, 0)]) (List.mem_of_getElem? (i := 0) rfl)
theorem y_sr_61 : (y_Krh 60 61 [(2, 0, 0, 0, 0, 0, 0)] []).isSome = true := List.all_eq_true.mp y_sr_h (61, [(2, 0, 0, 0, 0, 0, 0)]) (List.mem_of_getElem? (i := 1) rfl)
theorem y_sr_62 : (y_Krh 60 62 [(2, 0, 0, 0, 0, 0, 0)] []).isSome = true := List.all_eq_true.mp y_sr_h (62, [(2, 0, 0, 0, 0, 0, 0)]) (List.mem_of_getElem? (i := 2) rfl)
theorem y_sr_63 : (y_Krh 60 63 [(2, 0, 0, 0, 0, 0, 0), (0, (-2147483648), 2147483647, 0, 0, 0, 0)] []).isSome = true := List.all_eq_true.mp y_sr_h (63, [(2, 0, 0, 0, 0, 0, 0), (0, (-2147483648), 2147483647, 0, 0, 0, 0)]) (List.mem_of_getElem? (i := 3) rfl)
theorem y_sr_66 : (y_Krh 60 66 [(2, 0, 0, 0, 0, 0, 0), (0, (-2147483648), 2147483647, 0, 0, 0, 0), (0, (-2147483648), 2147483647, 0, 0, 0, 0)] []).isSome = true := List.all_eq_true.mp y_sr_h (66, [(2, 0, 0, 0, 0, 0, 0), (0, (-2147483648), 2147483647, 0, 0, 0, 0), (0, (-2147483648), 2147483647, 0, 0, 0, 0)]) (List.mem_of_getElem? (i := 4) rfl)
theorem y_sr_72 : (y_Krh 60 72 [(2, 0, 0, 0, 0, 0, 0), (0, (-2147483648), 2147483647, 0, 0, 0, 0), (0, (-2147483648), 2147483647, 0, 0, 0, 0)] []).isSome = true := List.all_eq_true.mp y_sr_h (72, [(2, 0, 0, 0, 0, 0, 0), (0, (-2147483648), 2147483647, 0, 0, 0, 0), (0, (-2147483648), 2147483647, 0, 0, 0, 0)]) (List.mem_of_getElem? (i := 5) rfl)
theorem y_sr_73 : (y_Krh 60 73 [(2, 0, 0, 0, 0, 0, 0), (0, (-2147483648), 2147483647, 0, 0, 0, 0)] []).isSome = true := List.all_eq_true.mp y_sr_h (73, [(2, 0, 0, 0, 0, 0, 0), (0, (-2147483648), 2147483647, 0, 0, 0, 0)]) (List.mem_of_getElem? (i := 6) rfl)
theorem y_sr_101 : (y_Krh 60 101 [(2, 0, 0, 0, 0, 0, 0), (0, (-2147483648), 2147483647, 0, 0, 0, 0), (0, (-2147483648), 2147483647, 0, 0, 0, 0), (0, (-2147483648), 2147483647, 0, 0, 0, 0)] []).isSome = true := List.all_eq_true.mp y_sr_h (101, [(2, 0, 0, 0, 0, 0, 0), (0, (-2147483648), 2147483647, 0, 0, 0, 0), (0, (-2147483648), 2147483647, 0, 0, 0, 0), (0, (-2147483648), 2147483647, 0, 0, 0, 0)]) (List.mem_of_getElem? (i := 8) rfl)
theorem y_sr_106 : (y_Krh 60 106 [(2, 0, 0, 0, 0, 0, 0), (0, (-2147483648), 2147483647, 0, 0, 0, 0)] []).isSome = true := List.all_eq_true.mp y_sr_h (106, [(2, 0, 0, 0, 0, 0, 0), (0, (-2147483648), 2147483647, 0, 0, 0, 0)]) (List.mem_of_getElem? (i := 9) rfl)
theorem y_sr_107 : (y_Krh 60 107 [(2, 0, 0, 0, 0, 0, 0), (0, (-2147483648), 2147483647, 0, 0, 0, 0), (0, (-2147483648), 2147483647, 0, 0, 0, 0)] []).isSome = true := List.all_eq_true.mp y_sr_h (107, [(2, 0, 0, 0, 0, 0, 0), (0, (-2147483648), 2147483647, 0, 0, 0, 0), (0, (-2147483648), 2147483647, 0, 0, 0, 0)]) (List.mem_of_getElem? (i := 10) rfl)
theorem y_sr_122 : (y_Krh 60 122 [(2, 0, 0, 0, 0, 0, 0), (0, (-2147483648), 2147483647, 0, 0, 0, 0), (0, (-2147483648), 2147483647, 0, 0, 0, 0)] []).isSome = true := List.all_eq_true.mp y_sr_h (122, [(2, 0, 0, 0, 0, 0, 0), (0, (-2147483648), 2147483647, 0, 0, 0, 0), (0, (-2147483648), 2147483647, 0, 0, 0, 0)]) (List.mem_of_getElem? (i := 11) rfl)
theorem y_sr_129 : (y_Krh 60 129 [(2, 0, 0, 0, 0, 0, 0), (0, (-2147483648), 2147483647, 0, 0, 0, 0)] []).isSome = true := List.all_eq_true.mp y_sr_h (129, [(2, 0, 0, 0, 0, 0, 0), (0, (-2147483648), 2147483647, 0, 0, 0, 0)]) (List.mem_of_getElem? (i := 12) rfl)
theorem y_sr_132 : (y_Krh 60 132 [(2, 0, 0, 0, 0, 0, 0), (0, (-2147483648), 2147483647, 0, 0, 0, 0)] []).isSome = true := List.all_eq_true.mp y_sr_h (132, [(2, 0, 0, 0, 0, 0, 0), (0, (-2147483648), 2147483647, 0, 0, 0, 0)]) (List.mem_of_getElem? (i := 13) rfl)
theorem y_sr_149 : (y_Krh 60 149 [(2, 0, 0, 0, 0, 0, 0)] []).isSome = true := List.all_eq_true.mp y_sr_h (149, [(2, 0, 0, 0, 0, 0, 0)]) (List.mem_of_getElem? (i := 14) rfl)
theorem y_sr_164 : (y_Krh 60 164 [(2, 0, 0, 0, 0, 0, 0), (0, (-2147483648), 2147483647, 0, 0, 0, 0), (0, (-2147483648), 2147483647, 0, 0, 0, 0), (0, (-2147483648), 2147483647, 0, 0, 0, 0)] []).isSome = true := List.all_eq_true.mp y_sr_h (164, [(2, 0, 0, 0, 0, 0, 0), (0, (-2147483648), 2147483647, 0, 0, 0, 0), (0, (-2147483648), 2147483647, 0, 0, 0, 0), (0, (-2147483648), 2147483647, 0, 0, 0, 0)]) (List.mem_of_getElem? (i := 15) rfl)
theorem y_sr_166 : (y_Krh 60 166 [(2, 0, 0, 0, 0, 0, 0), (0, (-2147483648), 2147483647, 0, 0, 0, 0), (0, (-2147483648), 2147483647, 0, 0, 0, 0), (0, (-2147483648), 2147483647, 0, 0, 0, 0)] []).isSome = true := List.all_eq_true.mp y_sr_h (166, [(2, 0, 0, 0, 0, 0, 0), (0, (-2147483648), 2147483647, 0, 0, 0, 0), (0, (-2147483648), 2147483647, 0, 0, 0, 0), (0, (-2147483648), 2147483647, 0, 0, 0, 0)]) (List.mem_of_getElem? (i := 16) rfl)
theorem y_sr_194 : (y_Krh 60 194 [(2, 0, 0, 0, 0, 0, 0)] []).isSome = true := List.all_eq_true.mp y_sr_h (194, [(2, 0, 0, 0, 0, 0, 0)]) (List.mem_of_getElem? (i := 17) rfl)
theorem y_sr_205 : (y_Krh 60 205 [(2, 0, 0, 0, 0, 0, 0), (0, (-2147483648), 2147483647, 0, 0, 0, 0), (0, (-2147483648), 2147483647, 0, 0, 0, 0)] []).isSome = true := List.all_eq_true.mp y_sr_h (205, [(2, 0, 0, 0, 0, 0, 0), (0, (-2147483648), 2147483647, 0, 0, 0, 0), (0, (-2147483648), 2147483647, 0, 0, 0, 0)]) (List.mem_of_getElem? (i := 18) rfl)
set_option maxRecDepth 100000 in
theorem y_sr_d : [((140 : Nat), ([(2, 0, 0, 0, 0, 0, 0), (0, (-2147483648), 2147483647, 0, 0, 0, 0)] : List y_V)),
  ((151 : Nat), ([(2, 0, 0, 0, 0, 0, 0)] : List y_V))].all (fun q => (y_Krdh 60 q.1 q.2 []).isSome) = true := by decide +kernel
theorem y_sr_140 : (y_Krdh 60 140 [(2, 0, 0, 0, 0, 0, 0), (0, (-2147483648), 2147483647, 0, 0, 0, 0)] []).isSome = true := List.all_eq_true.mp y_sr_d (140, [(2, 0, 0, 0, 0, 0, 0), (0, (-2147483648), 2147483647, 0, 0, 0, 0)]) (List.mem_of_getElem? (i := 0) rfl)
theorem y_sr_151 : (y_Krdh 60 151 [(2, 0, 0, 0, 0, 0, 0)] []).isSome = true := List.all_eq_true.mp y_sr_d (151, [(2, 0, 0, 0, 0, 0, 0)]) (List.mem_of_getElem? (i := 1) rfl)
