-- the law's own code between its calls
/-- kinds: 0 any int, 1 the place and a number, 2 the length and a number, 3 a number, 4 the script, 5 a cell, 6 any long, 8 what the script has at the place and a number, 9 an answer -/
abbrev z_V : Type := Nat × Int
abbrev z_L : Type := List (Nat × z_V)
abbrev z_F : Type := List (Int × Bool)
abbrev z_X : Type := List s_I × z_L × List z_V × z_F
abbrev z_E : Type := Int × Int × Nat × (Nat → Nat) × (Nat → Int32) × (Nat → Int32)
def z_g (E : z_E) (v : z_V) (x : Value) : Prop := match v with
  | (0, _) => ∃ m : Int32, x = .int m
  | (1, c) => ∃ m : Int32, x = .int m ∧ m.toInt = E.1 + c
  | (2, c) => ∃ m : Int32, x = .int m ∧ m.toInt = E.2.1 + c
  | (3, c) => ∃ m : Int32, x = .int m ∧ m.toInt = c
  | (4, _) => x = .ref E.2.2.1
  | (5, k) => x = .ref (E.2.2.2.1 k.toNat)
  | (6, _) => ∃ m : Int64, x = .long m
  | (8, c) => x = .int (E.2.2.2.2.1 (E.1 + c).toNat)
  | (9, k) => x = .int (E.2.2.2.2.2 k.toNat)
  | _ => False
def z_gL (E : z_E) (L : z_L) (Ls : g_L) : Prop := ∀ p ∈ L, ∃ x, (p.1, x) ∈ Ls ∧ z_g E p.2 x
def z_gS (E : z_E) : List z_V → List Value → Prop
  | [], [] => True
  | v :: vs, x :: xs => z_g E v x ∧ z_gS E vs xs
  | _, _ => False
def z_gF (E : z_E) (F : z_F) : Prop := ∀ p ∈ F, (p.2 = true ↔ ¬ E.2.2.2.2.1 (E.1 + p.1).toNat = 0)
/-- an int; a cell -/
def z_isI (v : z_V) : Bool := Nat.ble v.1 3 || (Nat.beq v.1 8 || Nat.beq v.1 9)
def z_isR (v : z_V) : Bool := Nat.beq v.1 4 || Nat.beq v.1 5
def z_c1 (v : z_V) : Bool := !Nat.beq v.1 6
def z_find : z_L → Nat → Option z_V
  | [], _ => none
  | (j, v) :: t, i => bif Nat.beq j i then some v else z_find t i
def z_fil1 (i : Nat) : z_L → z_L
  | [] => []
  | (j, u) :: t => bif (Nat.beq j i || (Nat.beq (j + 1) i && Nat.beq u.1 6)) then z_fil1 i t else (j, u) :: z_fil1 i t
def z_fil2 (i : Nat) : z_L → z_L
  | [] => []
  | (j, u) :: t => bif (Nat.beq j i || (Nat.beq j (i + 1) || (Nat.beq (j + 1) i && Nat.beq u.1 6))) then z_fil2 i t else (j, u) :: z_fil2 i t
def z_sm (c : Int) : Bool := decide (-10000 ≤ c) && decide (c ≤ 10000)
def z_q1 (t : List s_I) (L : z_L) (st : List z_V) (F : z_F) (a b : Nat) : Option (List z_X) := match z_find L a with
  | some v => bif (Nat.beq b 0 && z_isI v) || (Nat.beq b 2 && z_isR v) then some [(t, L, v :: st, F)] else none
  | none => none
def z_q2 (t : List s_I) (L : z_L) (st : List z_V) (F : z_F) (a b : Nat) : Option (List z_X) := match st with
  | v :: rest => bif Nat.beq b 0 && (z_isI v && Nat.blt a 8) then some [(t, (a, v) :: z_fil1 a L, rest, F)] else none
  | [] => none
def z_q3 (t : List s_I) (L : z_L) (st : List z_V) (F : z_F) (a b : Nat) : Option (List z_X) := match st with
  | v :: rest => bif Nat.beq b 1 && (Nat.beq v.1 6 && Nat.blt (a + 1) 8) then some [(t, (a, v) :: z_fil2 a L, rest, F)] else none
  | [] => none
def z_q4 (t : List s_I) (L : z_L) (st : List z_V) (F : z_F) (a : Nat) (n : Int) : Option (List z_X) := match z_find L a with
  | some (1, c) => bif Nat.blt a 8 && (z_sm c && z_sm n) then some [(t, (a, (1, c + n)) :: z_fil1 a L, st, F)] else none
  | _ => none
def z_q6 (t : List s_I) (L : z_L) (st : List z_V) (F : z_F) : Option (List z_X) := match st with
  | v :: rest => bif z_c1 v then some [(t, L, rest, F)] else none
  | [] => none
def z_q11 (t : List s_I) (L : z_L) (st : List z_V) (F : z_F) (a : Nat) : Option (List z_X) := match st with
  | y :: x :: rest => bif Nat.beq a 0 && (Nat.beq x.1 1 && (Nat.beq y.1 3 && (z_sm x.2 && z_sm y.2))) then some [(t, L, (1, x.2 + y.2) :: rest, F)]
    else bif Nat.beq a 1 && (Nat.beq x.1 2 && (Nat.beq y.1 3 && (z_sm x.2 && z_sm y.2))) then some [(t, L, (2, x.2 - y.2) :: rest, F)]
    else bif z_isI x && z_isI y then some [(t, L, (0, 0) :: rest, F)] else none
  | _ => none
def z_q28 (t : List s_I) (L : z_L) (st : List z_V) (F : z_F) : Option (List z_X) := match st with
  | x :: rest => bif Nat.beq x.1 4 then some [(t, L, (2, 0) :: rest, F)] else none
  | [] => none
def z_q32 (t : List s_I) (L : z_L) (st : List z_V) (F : z_F) (a : Nat) : Option (List z_X) := match st with
  | j :: x :: rest => bif Nat.beq a 0 && (Nat.beq j.1 1 && (Nat.beq x.1 4 && (decide (0 ≤ j.2) && decide (j.2 ≤ 4)))) then some [(t, L, (8, j.2) :: rest, F)] else none
  | _ => none
def z_ff : z_F → Int → Option Bool
  | [], _ => none
  | (c, u) :: t, d => bif decide (c = d) then some u else z_ff t d
/-- is it 0: eq (0), ne (1) -/
def z_q21 (full : List s_I) (t : List s_I) (L : z_L) (st : List z_V) (F : z_F) (a b : Nat) : Option (List z_X) := match st with
  | x :: rest => bif Nat.beq x.1 8 && Nat.ble b 1 then match s_jump full a with
      | some c => (match z_ff F x.2 with
        | some u => bif u then (bif Nat.beq b 0 then some [(t, L, rest, F)] else some [(c, L, rest, F)]) else (bif Nat.beq b 0 then some [(c, L, rest, F)] else some [(t, L, rest, F)])
        | none => bif Nat.beq b 0 then some [(c, L, rest, (x.2, false) :: F), (t, L, rest, (x.2, true) :: F)] else some [(c, L, rest, (x.2, true) :: F), (t, L, rest, (x.2, false) :: F)])
      | none => none
    else none
  | [] => none
def z_do (full : List s_I) (r : s_I) (t : List s_I) (L : z_L) (st : List z_V) (F : z_F) : Option (List z_X) := match r with
  | (_, _, q, _, a, b, v, _) => match q with
    | 0 => bif s_go r t && (Nat.beq a 0 && z_sm v) then some [(t, L, (3, v) :: st, F)] else none
    | 1 => bif s_go r t then z_q1 t L st F a b else none
    | 2 => bif s_go r t then z_q2 t L st F a b else none
    | 3 => bif s_go r t then z_q3 t L st F a b else none
    | 4 => bif s_go r t then z_q4 t L st F a v else none
    | 6 => bif s_go r t then z_q6 t L st F else none
    | 11 => bif s_go r t then z_q11 t L st F a else none
    | 20 => (match s_jump full a with
      | some c => some [(c, L, st, F)]
      | none => none)
    | 21 => bif s_go r t then z_q21 full t L st F a b else none
    | 28 => bif s_go r t then z_q28 t L st F else none
    | 32 => bif s_go r t then z_q32 t L st F a else none
    | _ => none
def z_all (f : z_X → Option (List z_X)) : List z_X → Option (List z_X)
  | [] => some []
  | X :: Xs => match f X with
    | some a => match z_all f Xs with
      | some b => some (a ++ b)
      | none => none
    | none => none
def z_run (full : List s_I) (stops : List Nat) : Nat → z_X → Option (List z_X)
  | 0, _ => none
  | n + 1, (code, L, st, F) => match code with
    | [] => none
    | r :: t => bif y_isn r.1 stops then some [(r :: t, L, st, F)] else match z_do full r t L st F with
      | none => some [(r :: t, L, st, F)]
      | some Xs => z_all (z_run full stops n) Xs
section Z1
variable {p : Program} {l : Launch} {e : Env} {s : State} {m : MethodId} {below : List Frame} {meth : Method} {c : Code} {b N : Nat} {xs : Nat → Int32} {D : va_G} {dA : Nat → ClassId}
variable {E : z_E} {L : z_L} {Ls : g_L} {st : List z_V} {sts : List Value} {F : z_F} {v u : z_V} {x : Value} {w : g_W}
theorem z_find_in {i : Nat} : ∀ {L : z_L}, z_find L i = some v → (i, v) ∈ L
  | [], h => by cases h
  | (j, w) :: t, h => by
    rw [z_find] at h
    cases e : Nat.beq j i
    · rw [e, cond_false] at h
      exact List.mem_cons_of_mem _ (z_find_in h)
    · rw [e, cond_true] at h
      cases h
      rw [Nat.beq_eq] at e
      subst e
      exact List.mem_cons_self
theorem z_gS_c {vs : List z_V} {ys : List Value} (h : z_gS E (v :: vs) ys) : ∃ x xs, ys = x :: xs ∧ z_g E v x ∧ z_gS E vs xs := by
  cases ys with
  | nil => exact h.elim
  | cons x xs => exact ⟨x, xs, rfl, h.1, h.2⟩
theorem z_isI_g (h : z_isI v = true) (hg : z_g E v x) : ∃ m : Int32, x = .int m := by
  obtain ⟨k, z⟩ := v
  unfold z_isI at h
  simp only [Bool.or_eq_true, Nat.ble_eq, Nat.beq_eq] at h
  rcases h with h | h | h
  · rcases k with _ | _ | _ | _ | k
    · exact hg
    · obtain ⟨m, e, -⟩ := hg; exact ⟨m, e⟩
    · obtain ⟨m, e, -⟩ := hg; exact ⟨m, e⟩
    · obtain ⟨m, e, -⟩ := hg; exact ⟨m, e⟩
    · omega
  · subst h; exact ⟨_, hg⟩
  · subst h; exact ⟨_, hg⟩
theorem z_isR_g (h : z_isR v = true) (hg : z_g E v x) : ∃ a, x = .ref a := by
  obtain ⟨k, z⟩ := v
  unfold z_isR at h
  simp only [Bool.or_eq_true, Nat.beq_eq] at h
  rcases h with h | h <;> subst h <;> exact ⟨_, hg⟩
theorem z_cat (hg : z_g E v x) : x.category = bif Nat.beq v.1 6 then 2 else 1 := by
  obtain ⟨k, z⟩ := v
  match k, hg with
  | 0, ⟨m, e⟩ => rw [e]; rfl
  | 1, ⟨m, e, _⟩ => rw [e]; rfl
  | 2, ⟨m, e, _⟩ => rw [e]; rfl
  | 3, ⟨m, e, _⟩ => rw [e]; rfl
  | 4, e => rw [show x = .ref _ from e]; rfl
  | 5, e => rw [show x = .ref _ from e]; rfl
  | 6, ⟨m, e⟩ => rw [e]; rfl
  | 8, e => rw [show x = .int _ from e]; rfl
  | 9, e => rw [show x = .int _ from e]; rfl
theorem z_fil1_in {i : Nat} {q : Nat × z_V} : ∀ {L : z_L}, q ∈ z_fil1 i L → q ∈ L ∧ ¬ q.1 = i ∧ ¬ (q.1 + 1 = i ∧ Nat.beq q.2.1 6 = true)
  | [], h => by cases h
  | (j, u) :: t, h => by
    rw [z_fil1] at h
    cases e : (Nat.beq j i || (Nat.beq (j + 1) i && Nat.beq u.1 6))
    · rw [e, cond_false] at h
      rcases List.mem_cons.mp h with rfl | h
      · refine ⟨List.mem_cons_self, fun h1 => ?_, fun h1 => ?_⟩
        · have h1' : j = i := h1
          rw [h1', Nat.beq_eq.mpr rfl] at e
          cases e
        · have h1' : j + 1 = i := h1.1
          have h2' : Nat.beq u.1 6 = true := h1.2
          rw [h1', Nat.beq_eq.mpr rfl, h2', Bool.and_true, Bool.or_true] at e
          cases e
      · have := z_fil1_in h
        exact ⟨List.mem_cons_of_mem _ this.1, this.2⟩
    · rw [e, cond_true] at h
      have := z_fil1_in h
      exact ⟨List.mem_cons_of_mem _ this.1, this.2⟩
theorem z_fil2_in {i : Nat} {q : Nat × z_V} : ∀ {L : z_L}, q ∈ z_fil2 i L → q ∈ L ∧ ¬ q.1 = i ∧ ¬ q.1 = i + 1 ∧ ¬ (q.1 + 1 = i ∧ Nat.beq q.2.1 6 = true)
  | [], h => by cases h
  | (j, u) :: t, h => by
    rw [z_fil2] at h
    cases e : (Nat.beq j i || (Nat.beq j (i + 1) || (Nat.beq (j + 1) i && Nat.beq u.1 6)))
    · rw [e, cond_false] at h
      rcases List.mem_cons.mp h with rfl | h
      · refine ⟨List.mem_cons_self, fun h1 => ?_, fun h1 => ?_, fun h1 => ?_⟩
        · have h1' : j = i := h1
          rw [h1', Nat.beq_eq.mpr rfl] at e
          cases e
        · have h1' : j = i + 1 := h1
          rw [h1', Nat.beq_eq.mpr rfl, Bool.true_or, Bool.or_true] at e
          cases e
        · have h1' : j + 1 = i := h1.1
          have h2' : Nat.beq u.1 6 = true := h1.2
          rw [h1', Nat.beq_eq.mpr rfl, h2', Bool.and_true, Bool.or_true, Bool.or_true] at e
          cases e
      · have := z_fil2_in h
        exact ⟨List.mem_cons_of_mem _ this.1, this.2⟩
    · rw [e, cond_true] at h
      have := z_fil2_in h
      exact ⟨List.mem_cons_of_mem _ this.1, this.2⟩
theorem z_gL_1 {i : Nat} (hL : z_gL E L Ls) (hv : z_g E v x) : z_gL E ((i, v) :: z_fil1 i L) (g_st1 i x Ls) := by
  intro q hq
  rcases List.mem_cons.mp hq with rfl | hq
  · exact ⟨x, List.mem_cons_self, hv⟩
  · obtain ⟨hm, n1, n2⟩ := z_fil1_in hq
    obtain ⟨y, hy, hg⟩ := hL q hm
    refine ⟨y, List.mem_cons_of_mem _ (List.mem_filter.mpr ⟨hy, ?_⟩), hg⟩
    have hc := z_cat hg
    simp only [Bool.and_eq_true, Bool.not_eq_true', beq_eq_false_iff_ne]
    refine ⟨n1, ?_⟩
    cases e1 : (q.1 + 1 == i)
    · rfl
    · rw [beq_iff_eq] at e1
      cases e2 : Nat.beq q.2.1 6
      · rw [e2] at hc
        rw [hc]
        rfl
      · exact absurd ⟨e1, e2⟩ n2
theorem z_gL_2 {i : Nat} (hL : z_gL E L Ls) (hv : z_g E v x) : z_gL E ((i, v) :: z_fil2 i L) (g_st2 i x Ls) := by
  intro q hq
  rcases List.mem_cons.mp hq with rfl | hq
  · exact ⟨x, List.mem_cons_self, hv⟩
  · obtain ⟨hm, n1, n3, n2⟩ := z_fil2_in hq
    obtain ⟨y, hy, hg⟩ := hL q hm
    refine ⟨y, List.mem_cons_of_mem _ (List.mem_filter.mpr ⟨hy, ?_⟩), hg⟩
    have hc := z_cat hg
    simp only [Bool.and_eq_true, Bool.not_eq_true', beq_eq_false_iff_ne]
    refine ⟨n1, n3, ?_⟩
    cases e1 : (q.1 + 1 == i)
    · rfl
    · rw [beq_iff_eq] at e1
      cases e2 : Nat.beq q.2.1 6
      · rw [e2] at hc
        rw [hc]
        rfl
      · exact absurd ⟨e1, e2⟩ n2
theorem z_sm_ok {c : Int} (h : z_sm c = true) : -10000 ≤ c ∧ c ≤ 10000 := by
  unfold z_sm at h
  rw [Bool.and_eq_true, decide_eq_true_eq, decide_eq_true_eq] at h
  exact h
theorem z_ff_in {d : Int} {u : Bool} : ∀ {F : z_F}, z_ff F d = some u → (d, u) ∈ F
  | [], h => by cases h
  | (c, w) :: t, h => by
    rw [z_ff] at h
    cases e : decide (c = d)
    · rw [e, cond_false] at h
      exact List.mem_cons_of_mem _ (z_ff_in h)
    · rw [e, cond_true] at h
      cases h
      rw [decide_eq_true_eq] at e
      subst e
      exact List.mem_cons_self
/-- the law's closure, as far as it is wanted here -/
def z_cl (N b : Nat) (xs : Nat → Int32) (P : g_S → Prop) : Prop := (∀ S, g_pre (g_run 60) 13 8 false 1105985 5778149 code P S → P S) ∧
  (∀ (pc : Nat) (L : g_L) (rest : List Value) (w : g_W), decode code pc = .ok (.arraylength, 1) → P (pc + 1, L, .int (Int32.ofNat N) :: rest, w) → P (pc, L, .ref b :: rest, w)) ∧
  (∀ (pc : Nat) (L : g_L) (rest : List Value) (w : g_W) (j : Int32) (k : Nat), decode code pc = .ok (.iaload, 1) → k < N → j.toInt = (k : Int) → P (pc + 1, L, .int (xs k) :: rest, w) → P (pc, L, .int j :: .ref b :: rest, w))
theorem z_cl_ok (C0 : lw_At p s m meth c b N xs) (hK : g_K4 D dA s) : z_cl N b xs (lw_PP p l e s m below meth c b D dA) :=
  ⟨lw_cl C0 hK, fun _ _ _ _ hd k => lw_len C0 hd k, fun _ _ _ _ _ _ hd h1 h2 k => lw_ld C0 hd h1 h2 k⟩
/-- what is known of the place -/
def z_ok (N b : Nat) (xs : Nat → Int32) (E : z_E) : Prop := 0 ≤ E.1 ∧ E.1 + 5 ≤ E.2.1 ∧ E.2.1 ≤ 2560 ∧ E.2.1 = (N : Int) ∧ E.2.2.1 = b ∧ E.2.2.2.2.1 = xs
/-- a state holds where the machine's does -/
def z_P (E : z_E) (P : g_S → Prop) (w : g_W) (pc : Nat) (L : z_L) (st : List z_V) (F : z_F) : Prop := ∀ (Ls : g_L) (sts : List Value), z_gL E L Ls → z_gS E st sts → z_gF E F → P (pc, Ls, sts, w)
end Z1
