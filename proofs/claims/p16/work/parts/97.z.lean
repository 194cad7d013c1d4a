-- joined: 97.z, 98.zok, 99a.iter, 99a0.frame, 99b.loop, 99c.model, 99d.class, 99e.shop
section
-- the law's own code between its calls
/-- kinds: 0 any int, 1 the place and a number, 2 the length and a number, 3 a number, 4 the script, 5 a cell, 6 any long, 8 what the script has at the place and a number, 9 an answer -/
abbrev z_V : Type := Nat × Int
abbrev z_L : Type := List (Nat × z_V)
abbrev z_F : Type := List (Int × Bool)
abbrev z_X : Type := List s_I × z_L × List z_V × z_F
abbrev z_E : Type := Int × Int × Nat × (Nat → Nat) × (Nat → Int32) × (Nat → Int32)
def z_g (E : z_E) (v : z_V) (x : Value) : Prop := match v with
  | (0, _) => ∃ m : Int32, x = .int m
  | (1, c) => ∃ m : Int32, x = .int m ∧ m.toInt = E.1 + c
  | (2, c) => ∃ m : Int32, x = .int m ∧ m.toInt = E.2.1 + c
  | (3, c) => ∃ m : Int32, x = .int m ∧ m.toInt = c
  | (4, _) => x = .ref E.2.2.1
  | (5, k) => x = .ref (E.2.2.2.1 k.toNat)
  | (6, _) => ∃ m : Int64, x = .long m
  | (8, c) => x = .int (E.2.2.2.2.1 (E.1 + c).toNat)
  | (9, k) => x = .int (E.2.2.2.2.2 k.toNat)
  | _ => False
def z_gL (E : z_E) (L : z_L) (Ls : g_L) : Prop := ∀ p ∈ L, ∃ x, (p.1, x) ∈ Ls ∧ z_g E p.2 x
def z_gS (E : z_E) : List z_V → List Value → Prop
  | [], [] => True
  | v :: vs, x :: xs => z_g E v x ∧ z_gS E vs xs
  | _, _ => False
def z_gF (E : z_E) (F : z_F) : Prop := ∀ p ∈ F, (p.2 = true ↔ ¬ E.2.2.2.2.1 (E.1 + p.1).toNat = 0)
/-- an int; a cell -/
def z_isI (v : z_V) : Bool := Nat.ble v.1 3 || (Nat.beq v.1 8 || Nat.beq v.1 9)
def z_isR (v : z_V) : Bool := Nat.beq v.1 4 || Nat.beq v.1 5
def z_c1 (v : z_V) : Bool := !Nat.beq v.1 6
def z_find : z_L → Nat → Option z_V
  | [], _ => none
  | (j, v) :: t, i => bif Nat.beq j i then some v else z_find t i
def z_fil1 (i : Nat) : z_L → z_L
  | [] => []
  | (j, u) :: t => bif (Nat.beq j i || (Nat.beq (j + 1) i && Nat.beq u.1 6)) then z_fil1 i t else (j, u) :: z_fil1 i t
def z_fil2 (i : Nat) : z_L → z_L
  | [] => []
  | (j, u) :: t => bif (Nat.beq j i || (Nat.beq j (i + 1) || (Nat.beq (j + 1) i && Nat.beq u.1 6))) then z_fil2 i t else (j, u) :: z_fil2 i t
def z_sm (c : Int) : Bool := decide (-10000 ≤ c) && decide (c ≤ 10000)
def z_q1 (t : List s_I) (L : z_L) (st : List z_V) (F : z_F) (a b : Nat) : Option (List z_X) := match z_find L a with
  | some v => bif (Nat.beq b 0 && z_isI v) || (Nat.beq b 2 && z_isR v) then some [(t, L, v :: st, F)] else none
  | none => none
def z_q2 (t : List s_I) (L : z_L) (st : List z_V) (F : z_F) (a b : Nat) : Option (List z_X) := match st with
  | v :: rest => bif Nat.beq b 0 && (z_isI v && Nat.blt a 8) then some [(t, (a, v) :: z_fil1 a L, rest, F)] else none
  | [] => none
def z_q3 (t : List s_I) (L : z_L) (st : List z_V) (F : z_F) (a b : Nat) : Option (List z_X) := match st with
  | v :: rest => bif Nat.beq b 1 && (Nat.beq v.1 6 && Nat.blt (a + 1) 8) then some [(t, (a, v) :: z_fil2 a L, rest, F)] else none
  | [] => none
def z_q4 (t : List s_I) (L : z_L) (st : List z_V) (F : z_F) (a : Nat) (n : Int) : Option (List z_X) := match z_find L a with
  | some (1, c) => bif Nat.blt a 8 && (z_sm c && z_sm n) then some [(t, (a, (1, c + n)) :: z_fil1 a L, st, F)] else none
  | _ => none
def z_q6 (t : List s_I) (L : z_L) (st : List z_V) (F : z_F) : Option (List z_X) := match st with
  | v :: rest => bif z_c1 v then some [(t, L, rest, F)] else none
  | [] => none
def z_q11 (t : List s_I) (L : z_L) (st : List z_V) (F : z_F) (a : Nat) : Option (List z_X) := match st with
  | y :: x :: rest => bif Nat.beq a 0 && (Nat.beq x.1 1 && (Nat.beq y.1 3 && (z_sm x.2 && z_sm y.2))) then some [(t, L, (1, x.2 + y.2) :: rest, F)]
    else bif Nat.beq a 1 && (Nat.beq x.1 2 && (Nat.beq y.1 3 && (z_sm x.2 && z_sm y.2))) then some [(t, L, (2, x.2 - y.2) :: rest, F)]
    else bif z_isI x && z_isI y then some [(t, L, (0, 0) :: rest, F)] else none
  | _ => none
def z_q28 (t : List s_I) (L : z_L) (st : List z_V) (F : z_F) : Option (List z_X) := match st with
  | x :: rest => bif Nat.beq x.1 4 then some [(t, L, (2, 0) :: rest, F)] else none
  | [] => none
def z_q32 (t : List s_I) (L : z_L) (st : List z_V) (F : z_F) (a : Nat) : Option (List z_X) := match st with
  | j :: x :: rest => bif Nat.beq a 0 && (Nat.beq j.1 1 && (Nat.beq x.1 4 && (decide (0 ≤ j.2) && decide (j.2 ≤ 4)))) then some [(t, L, (8, j.2) :: rest, F)] else none
  | _ => none
def z_ff : z_F → Int → Option Bool
  | [], _ => none
  | (c, u) :: t, d => bif decide (c = d) then some u else z_ff t d
/-- is it 0: eq (0), ne (1) -/
def z_q21 (full : List s_I) (t : List s_I) (L : z_L) (st : List z_V) (F : z_F) (a b : Nat) : Option (List z_X) := match st with
  | x :: rest => bif Nat.beq x.1 8 && Nat.ble b 1 then match s_jump full a with
      | some c => (match z_ff F x.2 with
        | some u => bif u then (bif Nat.beq b 0 then some [(t, L, rest, F)] else some [(c, L, rest, F)]) else (bif Nat.beq b 0 then some [(c, L, rest, F)] else some [(t, L, rest, F)])
        | none => bif Nat.beq b 0 then some [(c, L, rest, (x.2, false) :: F), (t, L, rest, (x.2, true) :: F)] else some [(c, L, rest, (x.2, true) :: F), (t, L, rest, (x.2, false) :: F)])
      | none => none
    else none
  | [] => none
def z_do (full : List s_I) (r : s_I) (t : List s_I) (L : z_L) (st : List z_V) (F : z_F) : Option (List z_X) := match r with
  | (_, _, q, _, a, b, v, _) => match q with
    | 0 => bif s_go r t && (Nat.beq a 0 && z_sm v) then some [(t, L, (3, v) :: st, F)] else none
    | 1 => bif s_go r t then z_q1 t L st F a b else none
    | 2 => bif s_go r t then z_q2 t L st F a b else none
    | 3 => bif s_go r t then z_q3 t L st F a b else none
    | 4 => bif s_go r t then z_q4 t L st F a v else none
    | 6 => bif s_go r t then z_q6 t L st F else none
    | 11 => bif s_go r t then z_q11 t L st F a else none
    | 20 => (match s_jump full a with
      | some c => some [(c, L, st, F)]
      | none => none)
    | 21 => bif s_go r t then z_q21 full t L st F a b else none
    | 28 => bif s_go r t then z_q28 t L st F else none
    | 32 => bif s_go r t then z_q32 t L st F a else none
    | _ => none
def z_all (f : z_X → Option (List z_X)) : List z_X → Option (List z_X)
  | [] => some []
  | X :: Xs => match f X with
    | some a => match z_all f Xs with
      | some b => some (a ++ b)
      | none => none
    | none => none
def z_run (full : List s_I) (stops : List Nat) : Nat → z_X → Option (List z_X)
  | 0, _ => none
  | n + 1, (code, L, st, F) => match code with
    | [] => none
    | r :: t => bif y_isn r.1 stops then some [(r :: t, L, st, F)] else match z_do full r t L st F with
      | none => some [(r :: t, L, st, F)]
      | some Xs => z_all (z_run full stops n) Xs
section Z1
variable {p : Program} {l : Launch} {e : Env} {s : State} {m : MethodId} {below : List Frame} {meth : Method} {c : Code} {b N : Nat} {xs : Nat → Int32} {D : va_G} {dA : Nat → ClassId}
variable {E : z_E} {L : z_L} {Ls : g_L} {st : List z_V} {sts : List Value} {F : z_F} {v u : z_V} {x : Value} {w : g_W}
theorem z_find_in {i : Nat} : ∀ {L : z_L}, z_find L i = some v → (i, v) ∈ L
  | [], h => by cases h
  | (j, w) :: t, h => by
    rw [z_find] at h
    cases e : Nat.beq j i
    · rw [e, cond_false] at h
      exact List.mem_cons_of_mem _ (z_find_in h)
    · rw [e, cond_true] at h
      cases h
      rw [Nat.beq_eq] at e
      subst e
      exact List.mem_cons_self
theorem z_gS_c {vs : List z_V} {ys : List Value} (h : z_gS E (v :: vs) ys) : ∃ x xs, ys = x :: xs ∧ z_g E v x ∧ z_gS E vs xs := by
  cases ys with
  | nil => exact h.elim
  | cons x xs => exact ⟨x, xs, rfl, h.1, h.2⟩
theorem z_isI_g (h : z_isI v = true) (hg : z_g E v x) : ∃ m : Int32, x = .int m := by
  obtain ⟨k, z⟩ := v
  unfold z_isI at h
  simp only [Bool.or_eq_true, Nat.ble_eq, Nat.beq_eq] at h
  rcases h with h | h | h
  · rcases k with _ | _ | _ | _ | k
    · exact hg
    · obtain ⟨m, e, -⟩ := hg; exact ⟨m, e⟩
    · obtain ⟨m, e, -⟩ := hg; exact ⟨m, e⟩
    · obtain ⟨m, e, -⟩ := hg; exact ⟨m, e⟩
    · omega
  · subst h; exact ⟨_, hg⟩
  · subst h; exact ⟨_, hg⟩
theorem z_isR_g (h : z_isR v = true) (hg : z_g E v x) : ∃ a, x = .ref a := by
  obtain ⟨k, z⟩ := v
  unfold z_isR at h
  simp only [Bool.or_eq_true, Nat.beq_eq] at h
  rcases h with h | h <;> subst h <;> exact ⟨_, hg⟩
theorem z_cat (hg : z_g E v x) : x.category = bif Nat.beq v.1 6 then 2 else 1 := by
  obtain ⟨k, z⟩ := v
  match k, hg with
  | 0, ⟨m, e⟩ => rw [e]; rfl
  | 1, ⟨m, e, _⟩ => rw [e]; rfl
  | 2, ⟨m, e, _⟩ => rw [e]; rfl
  | 3, ⟨m, e, _⟩ => rw [e]; rfl
  | 4, e => rw [show x = .ref _ from e]; rfl
  | 5, e => rw [show x = .ref _ from e]; rfl
  | 6, ⟨m, e⟩ => rw [e]; rfl
  | 8, e => rw [show x = .int _ from e]; rfl
  | 9, e => rw [show x = .int _ from e]; rfl
theorem z_fil1_in {i : Nat} {q : Nat × z_V} : ∀ {L : z_L}, q ∈ z_fil1 i L → q ∈ L ∧ ¬ q.1 = i ∧ ¬ (q.1 + 1 = i ∧ Nat.beq q.2.1 6 = true)
  | [], h => by cases h
  | (j, u) :: t, h => by
    rw [z_fil1] at h
    cases e : (Nat.beq j i || (Nat.beq (j + 1) i && Nat.beq u.1 6))
    · rw [e, cond_false] at h
      rcases List.mem_cons.mp h with rfl | h
      · refine ⟨List.mem_cons_self, fun h1 => ?_, fun h1 => ?_⟩
        · have h1' : j = i := h1
          rw [h1', Nat.beq_eq.mpr rfl] at e
          cases e
        · have h1' : j + 1 = i := h1.1
          have h2' : Nat.beq u.1 6 = true := h1.2
          rw [h1', Nat.beq_eq.mpr rfl, h2', Bool.and_true, Bool.or_true] at e
          cases e
      · have := z_fil1_in h
        exact ⟨List.mem_cons_of_mem _ this.1, this.2⟩
    · rw [e, cond_true] at h
      have := z_fil1_in h
      exact ⟨List.mem_cons_of_mem _ this.1, this.2⟩
theorem z_fil2_in {i : Nat} {q : Nat × z_V} : ∀ {L : z_L}, q ∈ z_fil2 i L → q ∈ L ∧ ¬ q.1 = i ∧ ¬ q.1 = i + 1 ∧ ¬ (q.1 + 1 = i ∧ Nat.beq q.2.1 6 = true)
  | [], h => by cases h
  | (j, u) :: t, h => by
    rw [z_fil2] at h
    cases e : (Nat.beq j i || (Nat.beq j (i + 1) || (Nat.beq (j + 1) i && Nat.beq u.1 6)))
    · rw [e, cond_false] at h
      rcases List.mem_cons.mp h with rfl | h
      · refine ⟨List.mem_cons_self, fun h1 => ?_, fun h1 => ?_, fun h1 => ?_⟩
        · have h1' : j = i := h1
          rw [h1', Nat.beq_eq.mpr rfl] at e
          cases e
        · have h1' : j = i + 1 := h1
          rw [h1', Nat.beq_eq.mpr rfl, Bool.true_or, Bool.or_true] at e
          cases e
        · have h1' : j + 1 = i := h1.1
          have h2' : Nat.beq u.1 6 = true := h1.2
          rw [h1', Nat.beq_eq.mpr rfl, h2', Bool.and_true, Bool.or_true, Bool.or_true] at e
          cases e
      · have := z_fil2_in h
        exact ⟨List.mem_cons_of_mem _ this.1, this.2⟩
    · rw [e, cond_true] at h
      have := z_fil2_in h
      exact ⟨List.mem_cons_of_mem _ this.1, this.2⟩
theorem z_gL_1 {i : Nat} (hL : z_gL E L Ls) (hv : z_g E v x) : z_gL E ((i, v) :: z_fil1 i L) (g_st1 i x Ls) := by
  intro q hq
  rcases List.mem_cons.mp hq with rfl | hq
  · exact ⟨x, List.mem_cons_self, hv⟩
  · obtain ⟨hm, n1, n2⟩ := z_fil1_in hq
    obtain ⟨y, hy, hg⟩ := hL q hm
    refine ⟨y, List.mem_cons_of_mem _ (List.mem_filter.mpr ⟨hy, ?_⟩), hg⟩
    have hc := z_cat hg
    simp only [Bool.and_eq_true, Bool.not_eq_true', beq_eq_false_iff_ne]
    refine ⟨n1, ?_⟩
    cases e1 : (q.1 + 1 == i)
    · rfl
    · rw [beq_iff_eq] at e1
      cases e2 : Nat.beq q.2.1 6
      · rw [e2] at hc
        rw [hc]
        rfl
      · exact absurd ⟨e1, e2⟩ n2
theorem z_gL_2 {i : Nat} (hL : z_gL E L Ls) (hv : z_g E v x) : z_gL E ((i, v) :: z_fil2 i L) (g_st2 i x Ls) := by
  intro q hq
  rcases List.mem_cons.mp hq with rfl | hq
  · exact ⟨x, List.mem_cons_self, hv⟩
  · obtain ⟨hm, n1, n3, n2⟩ := z_fil2_in hq
    obtain ⟨y, hy, hg⟩ := hL q hm
    refine ⟨y, List.mem_cons_of_mem _ (List.mem_filter.mpr ⟨hy, ?_⟩), hg⟩
    have hc := z_cat hg
    simp only [Bool.and_eq_true, Bool.not_eq_true', beq_eq_false_iff_ne]
    refine ⟨n1, n3, ?_⟩
    cases e1 : (q.1 + 1 == i)
    · rfl
    · rw [beq_iff_eq] at e1
      cases e2 : Nat.beq q.2.1 6
      · rw [e2] at hc
        rw [hc]
        rfl
      · exact absurd ⟨e1, e2⟩ n2
theorem z_sm_ok {c : Int} (h : z_sm c = true) : -10000 ≤ c ∧ c ≤ 10000 := by
  unfold z_sm at h
  rw [Bool.and_eq_true, decide_eq_true_eq, decide_eq_true_eq] at h
  exact h
theorem z_ff_in {d : Int} {u : Bool} : ∀ {F : z_F}, z_ff F d = some u → (d, u) ∈ F
  | [], h => by cases h
  | (c, w) :: t, h => by
    rw [z_ff] at h
    cases e : decide (c = d)
    · rw [e, cond_false] at h
      exact List.mem_cons_of_mem _ (z_ff_in h)
    · rw [e, cond_true] at h
      cases h
      rw [decide_eq_true_eq] at e
      subst e
      exact List.mem_cons_self
/-- the law's closure, as far as it is wanted here -/
def z_cl (N b : Nat) (xs : Nat → Int32) (P : g_S → Prop) : Prop := (∀ S, g_pre (g_run 60) 13 8 false 601024 7293034 code P S → P S) ∧
  (∀ (pc : Nat) (L : g_L) (rest : List Value) (w : g_W), decode code pc = .ok (.arraylength, 1) → P (pc + 1, L, .int (Int32.ofNat N) :: rest, w) → P (pc, L, .ref b :: rest, w)) ∧
  (∀ (pc : Nat) (L : g_L) (rest : List Value) (w : g_W) (j : Int32) (k : Nat), decode code pc = .ok (.iaload, 1) → k < N → j.toInt = (k : Int) → P (pc + 1, L, .int (xs k) :: rest, w) → P (pc, L, .int j :: .ref b :: rest, w))
theorem z_cl_ok (C0 : lw_At p s m meth c b N xs) (hK : g_K4 D dA s) : z_cl N b xs (lw_PP p l e s m below meth c b D dA) :=
  ⟨lw_cl C0 hK, fun _ _ _ _ hd k => lw_len C0 hd k, fun _ _ _ _ _ _ hd h1 h2 k => lw_ld C0 hd h1 h2 k⟩
/-- what is known of the place -/
def z_ok (N b : Nat) (xs : Nat → Int32) (E : z_E) : Prop := 0 ≤ E.1 ∧ E.1 + 5 ≤ E.2.1 ∧ E.2.1 ≤ 2560 ∧ E.2.1 = (N : Int) ∧ E.2.2.1 = b ∧ E.2.2.2.2.1 = xs
/-- a state holds where the machine's does -/
def z_P (E : z_E) (P : g_S → Prop) (w : g_W) (pc : Nat) (L : z_L) (st : List z_V) (F : z_F) : Prop := ∀ (Ls : g_L) (sts : List Value), z_gL E L Ls → z_gS E st sts → z_gF E F → P (pc, Ls, sts, w)
end Z1
end
section
-- the law's own code between its calls: its steps are the machine's
section Z2
variable {N b : Nat} {xs : Nat → Int32} {P : g_S → Prop} {E : z_E} {L : z_L} {st rest : List z_V} {F : z_F} {v u : z_V} {x : Value} {w : g_W} {full t : List s_I} {pc a k : Nat} {ins : Instr} {Xs : List z_X}
theorem z_ld_g {k : Nat} (h : s_ldI ins = some (a, k)) (hk : (k = 0 ∧ ∃ n, x = .int n) ∨ (k = 2 ∧ ∃ z, x = .ref z)) : ∃ p, g_load ins = some (a, s_len ins, p) ∧ p x = true := by
  cases ins <;> simp only [s_ldI, reduceCtorEq, Option.some.injEq, Prod.mk.injEq] at h <;> obtain ⟨rfl, rfl⟩ := h <;> refine ⟨_, rfl, ?_⟩
  · rcases hk with ⟨h, -⟩ | ⟨-, z, rfl⟩
    · cases h
    · rfl
  · rcases hk with ⟨h, -⟩ | ⟨-, z, rfl⟩
    · cases h
    · rfl
  · rcases hk with ⟨-, z, rfl⟩ | ⟨h, -⟩
    · rfl
    · cases h
  · rcases hk with ⟨-, z, rfl⟩ | ⟨h, -⟩
    · rfl
    · cases h
  · rcases hk with ⟨h, -⟩ | ⟨h, -⟩ <;> cases h
  · rcases hk with ⟨h, -⟩ | ⟨h, -⟩ <;> cases h
theorem z_st_g {k : Nat} {two : Bool} (h : s_stI ins = some (a, two, k)) (hk : (k = 0 ∧ ∃ n, x = .int n) ∨ (k = 1 ∧ ∃ z, x = .long z)) : ∃ p, g_stor ins = some (a, s_len ins, two, p) ∧ p x = true := by
  cases ins <;> simp only [s_stI, reduceCtorEq, Option.some.injEq, Prod.mk.injEq] at h <;> obtain ⟨rfl, rfl, rfl⟩ := h <;> refine ⟨_, rfl, ?_⟩
  · rcases hk with ⟨h, -⟩ | ⟨h, -⟩ <;> cases h
  · rcases hk with ⟨h, -⟩ | ⟨h, -⟩ <;> cases h
  · rcases hk with ⟨-, z, rfl⟩ | ⟨h, -⟩
    · rfl
    · cases h
  · rcases hk with ⟨-, z, rfl⟩ | ⟨h, -⟩
    · rfl
    · cases h
  · rcases hk with ⟨h, -⟩ | ⟨-, z, rfl⟩
    · cases h
    · rfl
  · rcases hk with ⟨h, -⟩ | ⟨-, z, rfl⟩
    · cases h
    · rfl
theorem z_i32 {n : Int} (h1 : -10000 ≤ n) (h2 : n ≤ 10000) : (Int32.ofInt n).toInt = n := Int32.toInt_ofInt_of_le (by omega) (by omega)
/-- one way on -/
theorem z_one (hgo : s_pc t = pc) {L' : z_L} {st' : List z_V} {F' : z_F} (h : ∀ X ∈ [((t, L', st', F') : z_X)], z_P E P w (s_pc X.1) X.2.1 X.2.2.1 X.2.2.2) {Ls : g_L} {sts : List Value} (hL : z_gL E L' Ls) (hS : z_gS E st' sts) (hF : z_gF E F') : P (pc, Ls, sts, w) := by
  rw [← hgo]
  exact h _ List.mem_cons_self Ls sts hL hS hF
theorem z_okt {L' : z_L} {st' : List z_V} {F' : z_F} (hIt : ∀ r ∈ t, s_okI code 13 r = true) : ∀ X ∈ [((t, L', st', F') : z_X)], ∀ q ∈ X.1, s_okI code 13 q = true := by
  intro X hX
  rw [List.mem_singleton] at hX
  subst hX
  exact hIt
theorem z_do_ok (hP : z_cl N b xs P) (hE : z_ok N b xs E) (hfull : ∀ r ∈ full, s_okI code 13 r = true) {r : s_I} (hI : s_okI code 13 r = true) (hIt : ∀ q ∈ t, s_okI code 13 q = true) (e : z_do full r t L st F = some Xs) :
    (∀ X ∈ Xs, ∀ q ∈ X.1, s_okI code 13 q = true) ∧ ((∀ X ∈ Xs, z_P E P w (s_pc X.1) X.2.1 X.2.2.1 X.2.2.2) → z_P E P w r.1 L st F) := by
  obtain ⟨hcl, hlen, hld⟩ := hP
  obtain ⟨i0, i5, n2, hN, hb, hxs⟩ := hE
  obtain ⟨pc, len, q, kd, a, k, v, ins⟩ := r
  by_cases h44 : q < 44
  · obtain ⟨⟨n, hd, hlen9, hne⟩, hQ, hlk⟩ := s_okI_eq hI h44
    have hgo1 : s_go (pc, len, q, kd, a, k, v, ins) t = true → q ≠ 25 → s_pc t = pc + s_len ins := fun hg h25 => by rw [← hne h25, ← hlen9]; exact s_go_eq hg
    have hd1 : q ≠ 25 → decode code pc = .ok (ins, s_len ins) := fun h25 => by rw [← hne h25]; exact hd
    unfold z_do at e
    simp only at e
    split at e
    next =>
      obtain ⟨h1, h2⟩ := s_bif e
      rw [Bool.and_eq_true, Bool.and_eq_true, Nat.beq_eq] at h1
      obtain ⟨hg, rfl, hv⟩ := h1
      cases h2
      have hv := z_sm_ok hv
      have hc := s_con_g (σ := fun _ => 0) (ρ := fun _ => 0) (b := 0) (of_decide_eq_true (show decide (s_conI ins = some (0, v)) = true from hQ))
      refine ⟨z_okt hIt, fun hX Ls sts hL hS hF => ?_⟩
      exact hcl _ ⟨ins, _, hd1 (by decide), Or.inl (Or.inl ⟨_, hc, z_one (hgo1 hg (by decide)) hX hL ⟨⟨_, rfl, z_i32 hv.1 hv.2⟩, hS⟩ hF⟩)⟩
    next =>
      obtain ⟨hg, h2⟩ := s_bif e
      have hQ := of_decide_eq_true (show decide (s_ldI ins = some (a, k)) = true from hQ)
      unfold z_q1 at h2
      split at h2
      next v ev =>
        obtain ⟨h3, h4⟩ := s_bif h2
        cases h4
        refine ⟨z_okt hIt, fun hX Ls sts hL hS hF => ?_⟩
        obtain ⟨x, hx, hgx⟩ := hL _ (z_find_in ev)
        have hk : (k = 0 ∧ ∃ n, x = .int n) ∨ (k = 2 ∧ ∃ z, x = .ref z) := by
          rw [Bool.or_eq_true, Bool.and_eq_true, Bool.and_eq_true, Nat.beq_eq, Nat.beq_eq] at h3
          rcases h3 with ⟨h3, h5⟩ | ⟨h3, h5⟩
          · exact Or.inl ⟨h3, z_isI_g h5 hgx⟩
          · exact Or.inr ⟨h3, z_isR_g h5 hgx⟩
        obtain ⟨p, g1, g2⟩ := z_ld_g hQ hk
        exact hcl _ ⟨ins, _, hd1 (by decide), Or.inl (Or.inr (Or.inl ⟨_, _, _, g1, hx, g2, z_one (hgo1 hg (by decide)) hX hL ⟨hgx, hS⟩ hF⟩))⟩
      next => cases h2
    next =>
      obtain ⟨hg, h2⟩ := s_bif e
      have hQ := of_decide_eq_true (show decide (s_stI ins = some (a, false, k)) = true from hQ)
      unfold z_q2 at h2
      split at h2
      next v rest =>
        obtain ⟨h3, h4⟩ := s_bif h2
        cases h4
        rw [Bool.and_eq_true, Bool.and_eq_true, Nat.beq_eq, Nat.blt_eq] at h3
        refine ⟨z_okt hIt, fun hX Ls sts hL hS hF => ?_⟩
        obtain ⟨x, ys, rfl, hgx, hS'⟩ := z_gS_c hS
        obtain ⟨p, g1, g2⟩ := z_st_g hQ (Or.inl ⟨h3.1, z_isI_g h3.2.1 hgx⟩)
        exact hcl _ ⟨ins, _, hd1 (by decide), Or.inl (Or.inr (Or.inr (Or.inl ⟨_, _, _, _, g1, rfl, g2, h3.2.2, z_one (hgo1 hg (by decide)) hX (z_gL_1 hL hgx) hS' hF⟩)))⟩
      next => cases h2
    next =>
      obtain ⟨hg, h2⟩ := s_bif e
      have hQ := of_decide_eq_true (show decide (s_stI ins = some (a, true, k)) = true from hQ)
      unfold z_q3 at h2
      split at h2
      next v rest =>
        obtain ⟨h3, h4⟩ := s_bif h2
        cases h4
        rw [Bool.and_eq_true, Bool.and_eq_true, Nat.beq_eq, Nat.beq_eq, Nat.blt_eq] at h3
        refine ⟨z_okt hIt, fun hX Ls sts hL hS hF => ?_⟩
        obtain ⟨x, ys, rfl, hgx, hS'⟩ := z_gS_c hS
        have hlx : ∃ z, x = .long z := by
          obtain ⟨v1, v2⟩ := v
          have : v1 = 6 := h3.2.1
          subst this
          exact hgx
        obtain ⟨p, g1, g2⟩ := z_st_g hQ (Or.inr ⟨h3.1, hlx⟩)
        exact hcl _ ⟨ins, _, hd1 (by decide), Or.inl (Or.inr (Or.inr (Or.inr (Or.inl ⟨_, _, _, _, g1, rfl, g2, h3.2.2, z_one (hgo1 hg (by decide)) hX (z_gL_2 hL hgx) hS' hF⟩))))⟩
      next => cases h2
    next =>
      obtain ⟨hg, h2⟩ := s_bif e
      have hi := of_decide_eq_true (show decide (ins = .iinc a v) = true from hQ)
      subst hi
      unfold z_q4 at h2
      split at h2
      next c ev =>
        obtain ⟨h3, h4⟩ := s_bif h2
        cases h4
        rw [Bool.and_eq_true, Bool.and_eq_true, Nat.blt_eq] at h3
        obtain ⟨h3, c1, c2⟩ := h3
        have c1 := z_sm_ok c1
        have c2 := z_sm_ok c2
        refine ⟨z_okt hIt, fun hX Ls sts hL hS hF => ?_⟩
        obtain ⟨x, hx, m, rfl, hm⟩ := hL _ (z_find_in ev)
        have hv : z_g E (1, c + v) (.int (m + Int32.ofInt v)) := by
          refine ⟨_, rfl, ?_⟩
          rw [Int32.toInt_add, hm, z_i32 c2.1 c2.2]
          rw [show E.1 + c + v = E.1 + (c + v) by omega]
          apply Int.bmod_eq_of_le <;> omega
        exact hcl _ ⟨_, _, hd1 (by decide), Or.inl (Or.inr (Or.inr (Or.inr (Or.inr (Or.inl ⟨_, _, _, rfl, Or.inl rfl, hx, h3, z_one (hgo1 hg (by decide)) hX (z_gL_1 hL hv) hS hF⟩)))))⟩
      next => cases h2
    next =>
      obtain ⟨hg, h2⟩ := s_bif e
      have hi := of_decide_eq_true (show decide (ins = .pop) = true from hQ)
      subst hi
      unfold z_q6 at h2
      split at h2
      next v rest =>
        obtain ⟨h3, h4⟩ := s_bif h2
        cases h4
        refine ⟨z_okt hIt, fun hX Ls sts hL hS hF => ?_⟩
        obtain ⟨x, ys, rfl, hgx, hS'⟩ := z_gS_c hS
        have hc : x.category = 1 := by
          rw [z_cat hgx]
          unfold z_c1 at h3
          cases e6 : Nat.beq v.1 6
          · rfl
          · rw [e6] at h3; cases h3
        exact hcl _ ⟨_, _, hd1 (by decide), Or.inl (Or.inr (Or.inr (Or.inr (Or.inr (Or.inr (Or.inr (Or.inl ⟨_, _, rfl, rfl, rfl, hc, z_one (hgo1 hg (by decide)) hX hL hS' hF⟩)))))))⟩
      next => cases h2
    next =>
      obtain ⟨hg, h2⟩ := s_bif e
      have hQ := of_decide_eq_true (show decide (s_ibn ins = some a) = true from hQ)
      obtain ⟨g1, g2⟩ := s_ib_g hQ
      have hd' := hd1 (by decide)
      have hgo := hgo1 hg (by decide)
      rw [g2] at hd' hgo
      unfold z_q11 at h2
      split at h2
      next y x rest =>
        cases e1 : (Nat.beq a 0 && (Nat.beq x.1 1 && (Nat.beq y.1 3 && (z_sm x.2 && z_sm y.2))))
        · rw [e1, cond_false] at h2
          cases e2 : (Nat.beq a 1 && (Nat.beq x.1 2 && (Nat.beq y.1 3 && (z_sm x.2 && z_sm y.2))))
          · rw [e2, cond_false] at h2
            obtain ⟨h3, h4⟩ := s_bif h2
            cases h4
            rw [Bool.and_eq_true] at h3
            refine ⟨z_okt hIt, fun hX Ls sts hL hS hF => ?_⟩
            obtain ⟨x', ys, rfl, hgy, hS'⟩ := z_gS_c hS
            obtain ⟨y', zs, rfl, hgx, hS2⟩ := z_gS_c hS'
            obtain ⟨m1, rfl⟩ := z_isI_g h3.2 hgy
            obtain ⟨m2, rfl⟩ := z_isI_g h3.1 hgx
            exact hcl _ ⟨_, _, hd', Or.inr (Or.inl (Or.inl ⟨_, _, _, _, g1, rfl, rfl, z_one hgo hX hL ⟨⟨_, rfl⟩, hS2⟩ hF⟩))⟩
          · rw [e2, cond_true] at h2
            cases h2
            simp only [Bool.and_eq_true, Nat.beq_eq] at e2
            obtain ⟨rfl, x1, y1, c1, c2⟩ := e2
            have c1 := z_sm_ok c1
            have c2 := z_sm_ok c2
            refine ⟨z_okt hIt, fun hX Ls sts hL hS hF => ?_⟩
            obtain ⟨x', ys, rfl, hgy, hS'⟩ := z_gS_c hS
            obtain ⟨y', zs, rfl, hgx, hS2⟩ := z_gS_c hS'
            obtain ⟨xk, xc⟩ := x
            obtain ⟨yk, yc⟩ := y
            have x1' : xk = 2 := x1
            have y1' : yk = 3 := y1
            subst x1' y1'
            obtain ⟨m1, rfl, hm1⟩ := hgy
            obtain ⟨m2, rfl, hm2⟩ := hgx
            have hv : z_g E (2, xc - yc) (.int (m2 - m1)) := by
              refine ⟨_, rfl, ?_⟩
              rw [Int32.toInt_sub, hm1, hm2]
              rw [show E.2.1 + xc - yc = E.2.1 + (xc - yc) by omega]
              have d1 : -10000 ≤ xc ∧ xc ≤ 10000 := c1
              have d2 : -10000 ≤ yc ∧ yc ≤ 10000 := c2
              apply Int.bmod_eq_of_le <;> omega
            exact hcl _ ⟨_, _, hd', Or.inr (Or.inl (Or.inl ⟨_, _, _, _, g1, rfl, rfl, z_one hgo hX hL ⟨hv, hS2⟩ hF⟩))⟩
        · rw [e1, cond_true] at h2
          cases h2
          simp only [Bool.and_eq_true, Nat.beq_eq] at e1
          obtain ⟨rfl, x1, y1, c1, c2⟩ := e1
          have c1 := z_sm_ok c1
          have c2 := z_sm_ok c2
          refine ⟨z_okt hIt, fun hX Ls sts hL hS hF => ?_⟩
          obtain ⟨x', ys, rfl, hgy, hS'⟩ := z_gS_c hS
          obtain ⟨y', zs, rfl, hgx, hS2⟩ := z_gS_c hS'
          obtain ⟨xk, xc⟩ := x
          obtain ⟨yk, yc⟩ := y
          have x1' : xk = 1 := x1
          have y1' : yk = 3 := y1
          subst x1' y1'
          obtain ⟨m1, rfl, hm1⟩ := hgy
          obtain ⟨m2, rfl, hm2⟩ := hgx
          have hv : z_g E (1, xc + yc) (.int (m2 + m1)) := by
            refine ⟨_, rfl, ?_⟩
            rw [Int32.toInt_add, hm1, hm2]
            rw [show E.1 + xc + yc = E.1 + (xc + yc) by omega]
            have d1 : -10000 ≤ xc ∧ xc ≤ 10000 := c1
            have d2 : -10000 ≤ yc ∧ yc ≤ 10000 := c2
            apply Int.bmod_eq_of_le <;> omega
          exact hcl _ ⟨_, _, hd', Or.inr (Or.inl (Or.inl ⟨_, _, _, _, g1, rfl, rfl, z_one hgo hX hL ⟨hv, hS2⟩ hF⟩))⟩
      next => cases h2
    next =>
      have hQ' : ∃ off, ins = .goto off ∧ (pc : Int) + off = (a : Int) := by
        clear hd hne hlk hgo1 hd1 e
        revert hQ
        cases ins <;> intro hQ <;> first | exact ⟨_, rfl, of_decide_eq_true hQ⟩ | cases hQ
      obtain ⟨off, rfl, hoff⟩ := hQ'
      split at e
      next c ec =>
        cases e
        refine ⟨z_okt (fun q hq => hfull q (s_jump_in ec q hq)), fun hX Ls sts hL hS hF => ?_⟩
        exact hcl _ ⟨_, _, hd1 (by decide), Or.inr (Or.inr (Or.inl (Or.inl ⟨_, _, rfl, rfl, hoff, z_one (s_jump_eq ec) hX hL hS hF⟩)))⟩
      next => cases e
    next =>
      obtain ⟨hg, h2⟩ := s_bif e
      have hQ' : ∃ cd off, ins = .ifCond cd off ∧ (pc : Int) + off = (a : Int) ∧ s_cdn cd = k := by
        clear hd hne hlk hgo1 hd1 e
        revert hQ
        cases ins <;> intro hQ <;> first | exact ⟨_, _, rfl, of_decide_eq_true ((Bool.and_eq_true _ _).mp hQ).1, Nat.beq_eq.mp ((Bool.and_eq_true _ _).mp hQ).2⟩ | cases hQ
      obtain ⟨cd, off, rfl, hoff, hcd⟩ := hQ'
      have hgo := hgo1 hg (by decide)
      have hd' := hd1 (by decide)
      unfold z_q21 at h2
      split at h2
      next x rest =>
        obtain ⟨h3, h4⟩ := s_bif h2
        rw [Bool.and_eq_true, Nat.beq_eq, Nat.ble_eq] at h3
        obtain ⟨x1, hk1⟩ := h3
        obtain ⟨xk, xc⟩ := x
        have x1' : xk = 8 := x1
        subst x1'
        split at h4
        next c ec =>
          have hj := s_jump_eq ec
          have hokc : ∀ q ∈ c, s_okI code 13 q = true := fun q hq => hfull q (s_jump_in ec q hq)
          -- what the branch does
          have br : ∀ {Ls : g_L} {sts : List Value}, (E.2.2.2.2.1 (E.1 + xc).toNat = 0 → P (if k = 0 then a else pc + 3, Ls, sts, w)) → (¬ E.2.2.2.2.1 (E.1 + xc).toNat = 0 → P (if k = 0 then pc + 3 else a, Ls, sts, w)) → P (pc, Ls, .int (E.2.2.2.2.1 (E.1 + xc).toNat) :: sts, w) := by
            intro Ls sts k1 k2
            refine hcl _ ⟨_, _, hd', Or.inr (Or.inr (Or.inl (Or.inr (Or.inl ⟨_, _, _, _, _, rfl, rfl, hoff, rfl, ?_⟩))))⟩
            have hkk : k = 0 ∨ k = 1 := by omega
            by_cases hz : E.2.2.2.2.1 (E.1 + xc).toNat = 0
            · have q1 := k1 hz
              rcases hkk with hk | hk <;> rw [hk] at hcd q1 <;> cases cd <;> first | (exfalso; revert hcd; decide) | (rw [hz]; exact q1)
            · have q2 := k2 hz
              rcases hkk with hk | hk <;> rw [hk] at hcd q2 <;> cases cd <;> first | (exfalso; revert hcd; decide) | (simp only [g_c1, decide_eq_true_eq]; first | (rw [if_neg hz]; exact q2) | (rw [if_pos hz]; exact q2))
          have hF8 : ∀ {Ls : g_L} {sts : List Value}, z_gL E L Ls → z_gS E rest sts → z_gF E F → (u : Bool) → (u = true ↔ ¬ E.2.2.2.2.1 (E.1 + xc).toNat = 0) → z_gF E ((xc, u) :: F) := by
            intro Ls sts _ _ hF u hu q hq
            rcases List.mem_cons.mp hq with rfl | hq
            · exact hu
            · exact hF q hq
          have hl3 : s_len (.ifCond cd off) = 3 := rfl
          rw [hl3] at hgo
          split at h4
          next u hu =>
            have hu' := z_ff_in hu
            cases u with
            | true =>
              rw [cond_true] at h4
              cases eb : Nat.beq k 0
              · rw [eb, cond_false] at h4
                cases h4
                have hk0 : ¬ k = 0 := fun h => by rw [h] at eb; cases eb
                refine ⟨z_okt hokc, fun hX Ls sts hL hS hF => ?_⟩
                obtain ⟨x', ys, rfl, hgx, hS'⟩ := z_gS_c hS
                have ex : x' = .int (E.2.2.2.2.1 (E.1 + xc).toNat) := hgx
                subst ex
                refine br (fun hz => absurd hz ((hF _ hu').1 rfl)) (fun _ => ?_)
                rw [if_neg hk0]
                exact z_one hj hX hL hS' hF
              · rw [eb, cond_true] at h4
                cases h4
                have hk0 : k = 0 := Nat.beq_eq.mp eb
                refine ⟨z_okt hIt, fun hX Ls sts hL hS hF => ?_⟩
                obtain ⟨x', ys, rfl, hgx, hS'⟩ := z_gS_c hS
                have ex : x' = .int (E.2.2.2.2.1 (E.1 + xc).toNat) := hgx
                subst ex
                refine br (fun hz => absurd hz ((hF _ hu').1 rfl)) (fun _ => ?_)
                rw [if_pos hk0]
                exact z_one hgo hX hL hS' hF
            | false =>
              rw [cond_false] at h4
              have hz0 : z_gF E F → E.2.2.2.2.1 (E.1 + xc).toNat = 0 := fun hF => Classical.byContradiction (fun hn => by have := (hF _ hu').2 hn; cases this)
              cases eb : Nat.beq k 0
              · rw [eb, cond_false] at h4
                cases h4
                have hk0 : ¬ k = 0 := fun h => by rw [h] at eb; cases eb
                refine ⟨z_okt hIt, fun hX Ls sts hL hS hF => ?_⟩
                obtain ⟨x', ys, rfl, hgx, hS'⟩ := z_gS_c hS
                have ex : x' = .int (E.2.2.2.2.1 (E.1 + xc).toNat) := hgx
                subst ex
                refine br (fun _ => ?_) (fun hz => absurd (hz0 hF) hz)
                rw [if_neg hk0]
                exact z_one hgo hX hL hS' hF
              · rw [eb, cond_true] at h4
                cases h4
                have hk0 : k = 0 := Nat.beq_eq.mp eb
                refine ⟨z_okt hokc, fun hX Ls sts hL hS hF => ?_⟩
                obtain ⟨x', ys, rfl, hgx, hS'⟩ := z_gS_c hS
                have ex : x' = .int (E.2.2.2.2.1 (E.1 + xc).toNat) := hgx
                subst ex
                refine br (fun _ => ?_) (fun hz => absurd (hz0 hF) hz)
                rw [if_pos hk0]
                exact z_one hj hX hL hS' hF
          next hu =>
            have two : ∀ {X1 X2 : z_X}, (∀ q ∈ X1.1, s_okI code 13 q = true) → (∀ q ∈ X2.1, s_okI code 13 q = true) → ∀ X ∈ [X1, X2], ∀ q ∈ X.1, s_okI code 13 q = true := by
              intro X1 X2 h1 h2 X hX
              rcases List.mem_cons.mp hX with rfl | hX
              · exact h1
              · rw [List.mem_singleton] at hX
                subst hX
                exact h2
            cases eb : Nat.beq k 0
            · rw [eb, cond_false] at h4
              cases h4
              have hk0 : ¬ k = 0 := fun h => by rw [h] at eb; cases eb
              refine ⟨two hokc hIt, fun hX Ls sts hL hS hF => ?_⟩
              obtain ⟨x', ys, rfl, hgx, hS'⟩ := z_gS_c hS
              have ex : x' = .int (E.2.2.2.2.1 (E.1 + xc).toNat) := hgx
              subst ex
              refine br (fun hz => ?_) (fun hz => ?_)
              · rw [if_neg hk0, ← hgo]
                exact hX _ (List.mem_cons_of_mem _ List.mem_cons_self) Ls ys hL hS' (hF8 hL hS' hF false ⟨(fun h => by cases h), fun h => absurd hz h⟩)
              · rw [if_neg hk0, ← hj]
                exact hX _ List.mem_cons_self Ls ys hL hS' (hF8 hL hS' hF true ⟨fun _ => hz, fun _ => rfl⟩)
            · rw [eb, cond_true] at h4
              cases h4
              have hk0 : k = 0 := Nat.beq_eq.mp eb
              refine ⟨two hokc hIt, fun hX Ls sts hL hS hF => ?_⟩
              obtain ⟨x', ys, rfl, hgx, hS'⟩ := z_gS_c hS
              have ex : x' = .int (E.2.2.2.2.1 (E.1 + xc).toNat) := hgx
              subst ex
              refine br (fun hz => ?_) (fun hz => ?_)
              · rw [if_pos hk0, ← hj]
                exact hX _ List.mem_cons_self Ls ys hL hS' (hF8 hL hS' hF false ⟨(fun h => by cases h), fun h => absurd hz h⟩)
              · rw [if_pos hk0, ← hgo]
                exact hX _ (List.mem_cons_of_mem _ List.mem_cons_self) Ls ys hL hS' (hF8 hL hS' hF true ⟨fun _ => hz, fun _ => rfl⟩)
        next => cases h4
      next => cases h2
    next =>
      obtain ⟨hg, h2⟩ := s_bif e
      have hi := of_decide_eq_true (show decide (ins = .arraylength) = true from hQ)
      subst hi
      unfold z_q28 at h2
      split at h2
      next x rest =>
        obtain ⟨h3, h4⟩ := s_bif h2
        cases h4
        rw [Nat.beq_eq] at h3
        obtain ⟨xk, xc⟩ := x
        have h3' : xk = 4 := h3
        subst h3'
        refine ⟨z_okt hIt, fun hX Ls sts hL hS hF => ?_⟩
        obtain ⟨x', ys, rfl, hgx, hS'⟩ := z_gS_c hS
        have ex : x' = .ref E.2.2.1 := hgx
        subst ex
        rw [hb]
        refine hlen pc Ls ys w (hd1 (by decide)) (z_one (hgo1 hg (by decide)) hX hL ⟨⟨_, rfl, ?_⟩, hS'⟩ hF)
        have := Int32.toInt_ofNat_of_lt (show N < 2 ^ 31 by omega)
        omega
      next => cases h2
    next =>
      obtain ⟨hg, h2⟩ := s_bif e
      unfold z_q32 at h2
      split at h2
      next j x rest =>
        obtain ⟨h3, h4⟩ := s_bif h2
        cases h4
        simp only [Bool.and_eq_true, Nat.beq_eq, decide_eq_true_eq] at h3
        obtain ⟨rfl, j1, x1, j0, j4⟩ := h3
        obtain ⟨jk, jc⟩ := j
        obtain ⟨xk, xc⟩ := x
        have j1' : jk = 1 := j1
        have x1' : xk = 4 := x1
        subst j1' x1'
        have hQ1 : (Nat.beq (s_aln ins) 0 && Nat.blt 0 4) = true := hQ
        rw [Bool.and_eq_true, Nat.beq_eq] at hQ1
        have hi : ins = .iaload := by
          rcases s_al_i hQ1.1 (by decide) with ⟨-, h⟩ | ⟨h, -⟩ | ⟨h, -⟩ | ⟨h, -⟩
          · exact h
          · cases h
          · cases h
          · cases h
        subst hi
        refine ⟨z_okt hIt, fun hX Ls sts hL hS hF => ?_⟩
        obtain ⟨x', ys, rfl, hgj, hS'⟩ := z_gS_c hS
        obtain ⟨y', zs, rfl, hgx, hS2⟩ := z_gS_c hS'
        have ey : y' = .ref E.2.2.1 := hgx
        subst ey
        obtain ⟨m, rfl, hm⟩ := hgj
        rw [hb]
        have j0' : 0 ≤ jc := j0
        have j4' : jc ≤ 4 := j4
        refine hld pc Ls zs w m (E.1 + jc).toNat (hd1 (by decide)) (by omega) (by omega) (z_one (hgo1 hg (by decide)) hX hL ⟨?_, hS2⟩ hF)
        show Value.int (xs (E.1 + jc).toNat) = .int (E.2.2.2.2.1 (E.1 + jc).toNat)
        rw [hxs]
      next => cases h2
    next => cases e
  · exfalso
    unfold z_do at e
    simp only at e
    split at e <;> first | (cases e; done) | omega
theorem z_all_ok {f : z_X → Option (List z_X)} : ∀ {Xs outs : List z_X}, z_all f Xs = some outs → ∀ X ∈ Xs, ∃ os, f X = some os ∧ ∀ Y ∈ os, Y ∈ outs
  | [], outs, h => fun X hX => by cases hX
  | X :: Xs, outs, h => by
    unfold z_all at h
    split at h
    next a ea =>
      split at h
      next c ec =>
        cases h
        intro Z hZ
        rcases List.mem_cons.mp hZ with rfl | hZ
        · exact ⟨a, ea, fun Y hY => List.mem_append.mpr (Or.inl hY)⟩
        · obtain ⟨os, h1, h2⟩ := z_all_ok ec Z hZ
          exact ⟨os, h1, fun Y hY => List.mem_append.mpr (Or.inr (h2 Y hY))⟩
      next => cases h
    next => cases h
theorem z_all_in {f : z_X → Option (List z_X)} : ∀ {Xs outs : List z_X}, z_all f Xs = some outs → ∀ Y ∈ outs, ∃ X ∈ Xs, ∃ os, f X = some os ∧ Y ∈ os
  | [], outs, h => fun Y hY => by
    cases h
    cases hY
  | X :: Xs, outs, h => by
    unfold z_all at h
    split at h
    next a ea =>
      split at h
      next c ec =>
        cases h
        intro Y hY
        rcases List.mem_append.mp hY with hY | hY
        · exact ⟨X, List.mem_cons_self, a, ea, hY⟩
        · obtain ⟨Z, hZ, os, h1, h2⟩ := z_all_in ec Y hY
          exact ⟨Z, List.mem_cons_of_mem _ hZ, os, h1, h2⟩
      next => cases h
    next => cases h
theorem z_run_ok (hP : z_cl N b xs P) (hE : z_ok N b xs E) (hfull : ∀ r ∈ full, s_okI code 13 r = true) {stops : List Nat} : ∀ (n : Nat) (X : z_X) (outs : List z_X), z_run full stops n X = some outs → (∀ q ∈ X.1, s_okI code 13 q = true) →
    (∀ Y ∈ outs, ∀ q ∈ Y.1, s_okI code 13 q = true) ∧ ((∀ Y ∈ outs, z_P E P w (s_pc Y.1) Y.2.1 Y.2.2.1 Y.2.2.2) → z_P E P w (s_pc X.1) X.2.1 X.2.2.1 X.2.2.2) := by
  intro n
  induction n with
  | zero => intro X outs e; cases e
  | succ n ih =>
    intro X outs e hX
    obtain ⟨code9, L, st, F⟩ := X
    cases code9 with
    | nil => cases (show (none : Option (List z_X)) = some outs from e)
    | cons r t =>
      unfold z_run at e
      simp only at e
      have hr := hX r List.mem_cons_self
      have ht : ∀ q ∈ t, s_okI code 13 q = true := fun q hq => hX q (List.mem_cons_of_mem _ hq)
      have here : ∀ Y ∈ [((r :: t, L, st, F) : z_X)], ∀ q ∈ Y.1, s_okI code 13 q = true := fun Y hY => by
        rw [List.mem_singleton] at hY
        subst hY
        exact hX
      cases es : y_isn r.1 stops
      · rw [es, cond_false] at e
        split at e
        next =>
          cases e
          exact ⟨here, fun h => h _ List.mem_cons_self⟩
        next Xs eX =>
          obtain ⟨d1, d2⟩ := z_do_ok (w := w) hP hE hfull hr ht eX
          refine ⟨fun Y hY => ?_, fun h => d2 (fun Z hZ => ?_)⟩
          · obtain ⟨Z, hZ, os, h1, h2⟩ := z_all_in e Y hY
            exact (ih Z os h1 (d1 Z hZ)).1 Y h2
          · obtain ⟨os, h1, h2⟩ := z_all_ok e Z hZ
            exact (ih Z os h1 (d1 Z hZ)).2 (fun Y hY => h Y (h2 Y hY))
      · rw [es, cond_true] at e
        cases e
        exact ⟨here, fun h => h _ List.mem_cons_self⟩
end Z2
end
section
-- one turn of the law's loop
set_option maxRecDepth 20000
def z_tab : List s_I := s_cl.map (fun r => bif y_isn r.1 [1246, 1275, 1295, 1312] then (r.1, r.2.1, 34, r.2.2.2) else r)
set_option maxRecDepth 100000 in
theorem z_tab_4 : s_cl.all (fun r => bif y_isn r.1 [1246, 1275, 1295, 1312] then s_okI code 13 (r.1, r.2.1, 34, r.2.2.2) else true) = true := by decide +kernel
theorem z_tab_ok : ∀ r ∈ z_tab, s_okI code 13 r = true := by
  intro r hr
  obtain ⟨q, hq, rfl⟩ := List.mem_map.mp hr
  have h4 := List.all_eq_true.mp z_tab_4 q hq
  cases e : y_isn q.1 [1246, 1275, 1295, 1312]
  · rw [cond_false]
    exact s_cl_ok q hq
  · rw [e, cond_true] at h4
    rw [cond_true]
    exact h4
def z_L0 : z_L := [(0, (4, 0)), (1, (5, 0)), (2, (5, 60)), (3, (5, 106)), (4, (1, 0))]
def z_Ev (i n : Int) (b : Nat) (A : Nat → Nat) (xs ν : Nat → Int32) : z_E := (i, n, b, A, xs, ν)
def iv_sh (A : Nat → Nat) (h : g_H) : Prop := (∃ n f, g_get h 0 = some (A 0, false, 11, n, f)) ∧ (∃ n f, g_get h 60 = some (A 60, false, 12, n, f)) ∧ ∃ f, g_get h 106 = some (A 106, true, 1, 1, f)
/-- arguments: any int (0), a boolean (1) -/
def iv_sp : List Nat → List Value → Prop
  | [], [] => True
  | k :: ks, x :: xs => (∃ m : Int32, x = .int m ∧ (k = 1 → m.toInt = 0 ∨ m.toInt = 1)) ∧ iv_sp ks xs
  | _, _ => False
def iv_an (lg : Bool) (r : Option Value) (v : Int32) : Prop := bif lg then ∃ y : Int64, r = some (.long y) else r = some (.int v)
/-- the reference's call, behind the class's answer -/
def iv_two (INV : g_H → Prop) (A : Nat → Nat) (jm : Nat) (cmp lg : Bool) (as : List Value) (v1 : Int32) (h1 : g_H) : Prop := iv_sh A h1 ∧ g_run 60 jm (.ref (A 60) :: as) h1 0 0 (fun r2 h2 => (∃ v2, iv_an lg r2 v2 ∧ (cmp = true → v1 = v2)) ∧ INV h2)
/-- a pair of calls: of the class, of the reference -/
def iv_pair (INV : g_H → Prop) (A : Nat → Nat) (jx jm : Nat) (spec : List Nat) (cmp lg : Bool) : Prop := ∀ h as, INV h → iv_sp spec as → ∃ mc ms, mc ≤ 10 ∧ ms ≤ 133 ∧ g_run 60 jx (.ref (A 0) :: as) h mc ms (fun r1 h1 => ∃ v1, r1 = some (.int v1) ∧ iv_two INV A jm cmp lg as v1 h1)
-- the checks
def z_tkn : Nat → List z_V → List z_V → Option (List z_V × List z_V)
  | 0, st, acc => some (acc, st)
  | n + 1, v :: st, acc => z_tkn n st (v :: acc)
  | _ + 1, [], _ => none
def z_det (v : z_V) : Bool := Nat.beq v.1 8 || Nat.beq v.1 3
def z_spB : List Nat → List z_V → Bool
  | [], [] => true
  | k :: ks, v :: vs => z_det v && ((Nat.beq k 0 || (Nat.beq v.1 3 && (decide (v.2 = 0) || decide (v.2 = 1)))) && z_spB ks vs)
  | _, _ => false
def z_hd (L : z_L) : Bool := decide (z_find L 0 = some (4, 0)) && (decide (z_find L 1 = some (5, 0)) && (decide (z_find L 2 = some (5, 60)) && (decide (z_find L 3 = some (5, 106)) && decide (z_find L 4 = some (1, 5)))))
def z_at23 (Y : z_X) : Bool := match Y with
  | (r :: _, L, st, _) => Nat.beq r.1 23 && (st.isEmpty && z_hd L)
  | _ => false
def z_endB (cmp : Bool) (Y : z_X) : Bool := bif cmp then (match Y with
  | (r :: t, L, st, F) => Nat.beq r.2.1 3 && (Nat.beq r.2.2.1 22 && (Nat.beq r.2.2.2.2.2.1 0 && (decide (st = [(9, 2), (9, 1)]) && (match s_jump z_tab r.2.2.2.2.1 with
    | some c => (match z_run z_tab [23] 100 (c, L, [], F) with
      | some ends => ends.all z_at23
      | none => false)
    | none => false))))
  | _ => false) else z_at23 Y
def z_call (j n : Nat) (r : s_I) (t : List s_I) : Bool := Nat.beq r.2.1 3 && (Nat.beq r.2.2.1 34 && (Nat.beq r.2.2.2.1 2 && (Nat.beq r.2.2.2.2.1 j && (Nat.beq r.2.2.2.2.2.1 n && s_go r t))))
def z_res (lg : Bool) : z_V := bif lg then (6, 0) else (9, 2)
def z_leafB (jm : Nat) (args : List z_V) (cmp lg : Bool) (Y : z_X) : Bool := match Y with
  | (r :: t, L, st, F) => z_call jm args.length r t && (L.all (fun p => !Nat.beq p.2.1 9 || decide (p.2.2 = 1)) && (match z_tkn args.length st [] with
    | some (as, u :: rest) => decide (as = args) && (decide (u = (5, 60)) && (decide (rest = bif cmp then [(9, 1)] else []) && (match z_run z_tab [23] 100 (t, L, z_res lg :: rest, F) with
      | some ends => ends.all (z_endB cmp)
      | none => false)))
    | _ => false))
  | _ => false
def z_midB (jm : Nat) (args : List z_V) (cmp lg : Bool) (t : List s_I) (L : z_L) (F : z_F) : Bool := match z_run z_tab [23] 200 (t, L, [(9, 1)], F) with
  | some ls => ls.all (z_leafB jm args cmp lg)
  | none => false
def z_leafA (jx jm : Nat) (spec : List Nat) (cmp lg : Bool) (Y : z_X) : Bool := match Y with
  | (r :: t, L, st, F) => z_call jx spec.length r t && (L.all (fun p => !Nat.beq p.2.1 9) && (match z_tkn spec.length st [] with
    | some (as, [u]) => z_spB spec as && (decide (u = (5, 0)) && z_midB jm as cmp lg t L F)
    | _ => false))
  | _ => false
def z_case (jx jm : Nat) (spec : List Nat) (cmp lg : Bool) (tg : Nat) : Bool := match s_jump z_tab tg with
  | some c => (match z_run z_tab [23] 300 (c, z_L0, [], []) with
    | some ls => ls.all (z_leafA jx jm spec cmp lg)
    | none => false)
  | none => false
section Z3
variable {N b : Nat} {xs ν ν' : Nat → Int32} {P : g_S → Prop} {i n : Int} {A : Nat → Nat} {INV : g_H → Prop}
theorem z_nu {v : z_V} {x : Value} (h9 : v.1 = 9 → ν v.2.toNat = ν' v.2.toNat) (h : z_g (z_Ev i n b A xs ν) v x) : z_g (z_Ev i n b A xs ν') v x := by
  obtain ⟨k, z⟩ := v
  match k, h, h9 with
  | 0, h, _ => exact h
  | 1, h, _ => exact h
  | 2, h, _ => exact h
  | 3, h, _ => exact h
  | 4, h, _ => exact h
  | 5, h, _ => exact h
  | 6, h, _ => exact h
  | 8, h, _ => exact h
  | 9, h, h9 =>
    have e : x = .int (ν z.toNat) := h
    show x = .int (ν' z.toNat)
    rw [e, h9 rfl]
theorem z_nuL {L : z_L} {Ls : g_L} (h9 : ∀ p ∈ L, p.2.1 = 9 → ν p.2.2.toNat = ν' p.2.2.toNat) (h : z_gL (z_Ev i n b A xs ν) L Ls) : z_gL (z_Ev i n b A xs ν') L Ls := by
  intro p hp
  obtain ⟨x, h1, h2⟩ := h p hp
  exact ⟨x, h1, z_nu (h9 p hp) h2⟩
theorem z_nuS : ∀ {st : List z_V} {sts : List Value}, (∀ v ∈ st, v.1 = 9 → ν v.2.toNat = ν' v.2.toNat) → z_gS (z_Ev i n b A xs ν) st sts → z_gS (z_Ev i n b A xs ν') st sts
  | [], [], _, _ => trivial
  | [], _ :: _, _, h => h.elim
  | _ :: _, [], _, h => h.elim
  | v :: vs, x :: ys, h9, h => ⟨z_nu (h9 v List.mem_cons_self) h.1, z_nuS (fun u hu => h9 u (List.mem_cons_of_mem _ hu)) h.2⟩
theorem z_gS_app {E : z_E} : ∀ {a c : List z_V} {sts : List Value}, z_gS E (a ++ c) sts → ∃ u v, sts = u ++ v ∧ u.length = a.length ∧ z_gS E a u ∧ z_gS E c v
  | [], c, sts, h => ⟨[], sts, rfl, rfl, trivial, h⟩
  | _ :: _, _, [], h => h.elim
  | _ :: ts, _, x :: ys, h => by
    obtain ⟨u, v, e, hl, h1, h2⟩ := z_gS_app (a := ts) h.2
    exact ⟨x :: u, v, by rw [e]; rfl, by simp [hl], ⟨h.1, h1⟩, h2⟩
theorem z_gS_app2 {E : z_E} : ∀ {a c : List z_V} {u v : List Value}, z_gS E a u → z_gS E c v → z_gS E (a ++ c) (u ++ v)
  | [], _, [], _, _, h => h
  | [], _, _ :: _, _, h, _ => h.elim
  | _ :: _, _, [], _, h, _ => h.elim
  | _ :: _, _, _ :: _, _, h, h2 => ⟨h.1, z_gS_app2 h.2 h2⟩
theorem z_gS_rev {E : z_E} : ∀ {a : List z_V} {u : List Value}, z_gS E a u → z_gS E a.reverse u.reverse
  | [], [], _ => trivial
  | [], _ :: _, h => h.elim
  | _ :: _, [], h => h.elim
  | t :: ts, x :: ys, h => by
    rw [List.reverse_cons, List.reverse_cons]
    exact z_gS_app2 (z_gS_rev h.2) ⟨h.1, trivial⟩
theorem z_tkn_eq : ∀ (n : Nat) (st acc as rest : List z_V), z_tkn n st acc = some (as, rest) → ∃ l, as = l.reverse ++ acc ∧ st = l ++ rest ∧ l.length = n
  | 0, st, acc, as, rest, h => by cases h; exact ⟨[], rfl, rfl, rfl⟩
  | n + 1, v :: st, acc, as, rest, h => by
    obtain ⟨l, h1, h2, h3⟩ := z_tkn_eq n st (v :: acc) as rest h
    exact ⟨v :: l, by rw [h1]; simp, by rw [h2]; rfl, by simp [h3]⟩
  | _ + 1, [], _, _, _, h => by cases h
theorem z_args_g {E : z_E} {st : List z_V} {sts : List Value} (hS : z_gS E st sts) {as rest : List z_V} {n : Nat} (e : z_tkn n st [] = some (as, rest)) : ∃ ys sr, sts = ys.reverse ++ sr ∧ ys.length = n ∧ z_gS E as ys ∧ z_gS E rest sr := by
  obtain ⟨l, g1, g2, g3⟩ := z_tkn_eq _ _ _ _ _ e
  rw [List.append_nil] at g1
  rw [g2] at hS
  obtain ⟨u, w, hu, hul, hS1, hS2⟩ := z_gS_app hS
  have hr := z_gS_rev hS1
  rw [← g1] at hr
  exact ⟨u.reverse, w, by rw [List.reverse_reverse]; exact hu, by rw [List.length_reverse, hul, g3], hr, hS2⟩
theorem z_det_eq {E : z_E} {v : z_V} {x y : Value} (hd : z_det v = true) (hx : z_g E v x) (hy : z_g E v y) : x = y := by
  obtain ⟨k, z⟩ := v
  unfold z_det at hd
  simp only [Bool.or_eq_true, Nat.beq_eq] at hd
  rcases hd with h | h <;> subst h
  · exact (show x = _ from hx).trans (show y = _ from hy).symm
  · obtain ⟨m, rfl, h1⟩ := hx
    obtain ⟨m2, rfl, h2⟩ := hy
    rw [Int32.toInt_inj.mp (h1.trans h2.symm)]
theorem z_spB_eq {E : z_E} : ∀ {ks : List Nat} {vs : List z_V} {ys zs : List Value}, z_spB ks vs = true → z_gS E vs ys → z_gS E vs zs → ys = zs
  | [], [], [], [], _, _, _ => rfl
  | [], [], _ :: _, _, _, h, _ => h.elim
  | [], [], [], _ :: _, _, _, h => h.elim
  | [], _ :: _, _, _, h, _, _ => by cases h
  | _ :: _, [], _, _, h, _, _ => by cases h
  | _ :: _, _ :: _, [], _, _, h, _ => h.elim
  | _ :: _, _ :: _, _ :: _, [], _, _, h => h.elim
  | k :: ks, v :: vs, y :: ys, z :: zs, hb, h1, h2 => by
    rw [z_spB, Bool.and_eq_true, Bool.and_eq_true] at hb
    rw [z_det_eq hb.1 h1.1 h2.1, z_spB_eq hb.2.2 h1.2 h2.2]
theorem z_spB_ok {E : z_E} : ∀ {ks : List Nat} {vs : List z_V} {ys : List Value}, z_spB ks vs = true → z_gS E vs ys → iv_sp ks ys
  | [], [], [], _, _ => trivial
  | [], [], _ :: _, _, h => h.elim
  | [], _ :: _, _, h, _ => by cases h
  | _ :: _, [], _, h, _ => by cases h
  | _ :: _, _ :: _, [], _, h => h.elim
  | k :: ks, v :: vs, y :: ys, hb, h1 => by
    rw [z_spB, Bool.and_eq_true, Bool.and_eq_true] at hb
    refine ⟨?_, z_spB_ok hb.2.2 h1.2⟩
    have hi : z_isI v = true := by
      have := hb.1
      unfold z_det at this
      unfold z_isI
      simp only [Bool.or_eq_true, Nat.beq_eq, Nat.ble_eq] at this ⊢
      omega
    obtain ⟨m, rfl⟩ := z_isI_g hi h1.1
    refine ⟨m, rfl, fun hk => ?_⟩
    have h2 := hb.2.1
    subst hk
    obtain ⟨vk, vc⟩ := v
    simp only [Bool.or_eq_true, Bool.and_eq_true, Nat.beq_eq, decide_eq_true_eq] at h2
    rcases h2 with h2 | ⟨h2, h3⟩
    · omega
    · have h2' : vk = 3 := h2
      subst h2'
      obtain ⟨m2, e2, hm⟩ := h1.1
      cases e2
      have h3 : vc = 0 ∨ vc = 1 := h3
      omega
/-- a call in the law -/
theorem z_call_ok (hP : z_cl N b xs P) {r : s_I} {t : List s_I} {j n9 : Nat} (hI : s_okI code 13 r = true) (hc : z_call j n9 r t = true) {h : g_H} {q a nf : Nat} {f : Nat → Value} (hget : g_get h q = some (a, false, (g_me j).2.1, nf, f)) {as rest : List Value} (has : as.length = n9) (hsum : g_sum rest ≤ 8) {Ls : g_L} {cells slots mc ms : Nat} (h1 : cells + mc ≤ 601024) (h2 : slots + ms ≤ 7293034)
    (hrun : g_run 60 j (.ref a :: as) h mc ms (fun r9 h' => P (s_pc t, Ls, r9.toList ++ rest, cells + mc, slots + ms, h'))) : P (r.1, Ls, as.reverse ++ .ref a :: rest, cells, slots, h) := by
  obtain ⟨pc, len, q9, kd, a9, k, v, ins⟩ := r
  unfold z_call at hc
  simp only [Bool.and_eq_true, Nat.beq_eq] at hc
  obtain ⟨rfl, rfl, rfl, rfl, rfl, hg⟩ := hc
  obtain ⟨⟨n8, hd, hlen9, hne⟩, hQ, hlk⟩ := s_okI_eq hI (by decide)
  have hQ' : ∃ i, ins = .invokevirtual i := by
    clear hd hne hlk
    revert hQ
    cases ins <;> intro hQ <;> first | exact ⟨_, rfl⟩ | cases hQ
  obtain ⟨i9, rfl⟩ := hQ'
  obtain ⟨ps, hl⟩ := hlk (by decide) i9 rfl
  have hpc : s_pc t = pc + 3 := s_go_eq hg
  rw [hpc] at hrun
  have h3 : n8 = 3 := hlen9.symm
  rw [h3] at hd
  exact hP.1 _ ⟨_, _, hd, Or.inr (Or.inr (Or.inr (Or.inr (Or.inl ⟨i9, 2, _, _, v, ps, as, a, rest, q, nf, f, mc, ms, rfl, rfl, Or.inl rfl, hl, rfl, has, hget, hsum, h1, h2, hrun⟩))))⟩
/-- at the loop's head again -/
def z_next (P : g_S → Prop) (INV : g_H → Prop) (i n : Int) (b : Nat) (A : Nat → Nat) (xs : Nat → Int32) (cells slots : Nat) : Prop := ∀ (Ls : g_L) (h : g_H), z_gL (z_Ev (i + 5) n b A xs (fun _ => 0)) z_L0 Ls → INV h → P (23, Ls, [], cells, slots, h)
theorem z_hd_ok {L : z_L} {Ls : g_L} (h : z_hd L = true) (hL : z_gL (z_Ev i n b A xs ν) L Ls) : z_gL (z_Ev (i + 5) n b A xs ν') z_L0 Ls := by
  unfold z_hd at h
  simp only [Bool.and_eq_true, decide_eq_true_eq] at h
  obtain ⟨h0, h1, h2, h3, h4⟩ := h
  have g := fun {k : Nat} {v : z_V} (e : z_find L k = some v) => hL _ (z_find_in e)
  intro p hp
  have hp : p ∈ [((0, (4, 0)) : Nat × z_V), (1, (5, 0)), (2, (5, 60)), (3, (5, 106)), (4, (1, 0))] := hp
  simp only [List.mem_cons, List.not_mem_nil, or_false] at hp
  rcases hp with rfl | rfl | rfl | rfl | rfl
  · obtain ⟨x, a1, a2⟩ := g h0
    exact ⟨x, a1, a2⟩
  · obtain ⟨x, a1, a2⟩ := g h1
    exact ⟨x, a1, a2⟩
  · obtain ⟨x, a1, a2⟩ := g h2
    exact ⟨x, a1, a2⟩
  · obtain ⟨x, a1, a2⟩ := g h3
    exact ⟨x, a1, a2⟩
  · obtain ⟨x, a1, m, a2, a3⟩ := g h4
    refine ⟨x, a1, m, a2, ?_⟩
    have a3 : m.toInt = i + 5 := a3
    show m.toInt = i + 5 + 0
    omega
theorem z_at23_ok {Y : z_X} {h : g_H} {cells slots : Nat} (hb : z_at23 Y = true) (hn : z_next P INV i n b A xs cells slots) (hI : INV h) : z_P (z_Ev i n b A xs ν) P (cells, slots, h) (s_pc Y.1) Y.2.1 Y.2.2.1 Y.2.2.2 := by
  obtain ⟨c, L, st, F⟩ := Y
  cases c with
  | nil => cases hb
  | cons r t =>
    unfold z_at23 at hb
    simp only [Bool.and_eq_true, Nat.beq_eq, List.isEmpty_iff] at hb
    obtain ⟨h1, h2, h3⟩ := hb
    intro Ls sts hL hS hF
    have h2 : st = [] := h2
    subst h2
    cases sts with
    | cons _ _ => exact hS.elim
    | nil =>
      show P (r.1, Ls, [], cells, slots, h)
      rw [h1]
      exact hn Ls h (z_hd_ok h3 hL) hI
theorem z_endB_ok (hP : z_cl N b xs P) (hE : z_ok N b xs (z_Ev i n b A xs ν)) {cmp : Bool} {Y : z_X} (hY : ∀ q ∈ Y.1, s_okI code 13 q = true) {h : g_H} {cells slots : Nat} (hb : z_endB cmp Y = true) (hv : cmp = true → ν 1 = ν 2) (hn : z_next P INV i n b A xs cells slots) (hI : INV h) : z_P (z_Ev i n b A xs ν) P (cells, slots, h) (s_pc Y.1) Y.2.1 Y.2.2.1 Y.2.2.2 := by
  unfold z_endB at hb
  cases cmp
  · rw [cond_false] at hb
    exact z_at23_ok hb hn hI
  · rw [cond_true] at hb
    obtain ⟨c, L, st, F⟩ := Y
    cases c with
    | nil => cases hb
    | cons r t =>
      simp only [Bool.and_eq_true, Nat.beq_eq, decide_eq_true_eq] at hb
      obtain ⟨h0, h1, h2, rfl, h4⟩ := hb
      split at h4
      next c ec =>
        split at h4
        next ends ee =>
          intro Ls sts hL hS hF
          obtain ⟨x, ys, rfl, hx, hS2⟩ := z_gS_c hS
          obtain ⟨y, zs, rfl, hy, hS3⟩ := z_gS_c hS2
          have e1 : x = .int (ν 2) := hx
          have e2 : y = .int (ν 1) := hy
          subst e1 e2
          cases zs with
          | cons _ _ => exact hS3.elim
          | nil =>
            have hr := hY r List.mem_cons_self
            obtain ⟨pc, len, q9, kd, a9, k, v, ins⟩ := r
            have h0 : len = 3 := h0
            have h1 : q9 = 22 := h1
            have h2 : k = 0 := h2
            subst h0 h1 h2
            obtain ⟨⟨n8, hd, hlen9, hne⟩, hQ, hlk⟩ := s_okI_eq hr (by decide)
            have hQ' : ∃ cd off, ins = .if_icmp cd off ∧ (pc : Int) + off = (a9 : Int) ∧ s_cdn cd = 0 := by
              clear hd hne hlk hY
              revert hQ
              cases ins <;> intro hQ <;> first | exact ⟨_, _, rfl, of_decide_eq_true ((Bool.and_eq_true _ _).mp hQ).1, Nat.beq_eq.mp ((Bool.and_eq_true _ _).mp hQ).2⟩ | cases hQ
            obtain ⟨cd, off, rfl, hoff, hcd⟩ := hQ'
            have h3 : n8 = 3 := hlen9.symm
            rw [h3] at hd
            have hce : cd = .eq := by cases cd <;> first | rfl | (exfalso; revert hcd; decide)
            subst hce
            refine hP.1 _ ⟨_, _, hd, Or.inr (Or.inr (Or.inl (Or.inr (Or.inr (Or.inl ⟨_, _, _, _, _, _, rfl, rfl, hoff, rfl, ?_⟩)))))⟩
            have ht : g_c2 (ν 1) (ν 2) ClassFile.Cond.eq = true := decide_eq_true (hv rfl)
            rw [if_pos ht]
            have hj := s_jump_mem ec
            obtain ⟨k1, k2⟩ := z_run_ok (w := (cells, slots, h)) hP hE z_tab_ok 100 (c, L, [], F) ends ee (fun q hq => z_tab_ok q (hj.2 q hq))
            have := k2 (fun Z hZ => z_at23_ok (List.all_eq_true.mp h4 Z hZ) hn hI) Ls [] hL trivial hF
            rw [show s_pc c = a9 from hj.1] at this
            exact this
        next => cases h4
      next => cases h4
def z_v2 (v1 v2 : Int32) : Nat → Int32 := fun k => if k = 1 then v1 else v2
/-- from the reference's call on -/
theorem z_leafB_ok (hP : z_cl N b xs P) (hE : ∀ ν, z_ok N b xs (z_Ev i n b A xs ν)) {jm : Nat} (hjm : (g_me jm).2.1 = 12) {spec : List Nat} {args : List z_V} {as : List Value} {cmp lg : Bool} {Y : z_X} (hY : ∀ q ∈ Y.1, s_okI code 13 q = true) {v1 : Int32} {h1 : g_H} {cells slots : Nat} (hb : z_leafB jm args cmp lg Y = true) (hsp : z_spB spec args = true) (hag : z_gS (z_Ev i n b A xs (fun _ => v1)) args as) (htwo : iv_two INV A jm cmp lg as v1 h1) (hlg : lg = true → cmp = false) (hc1 : cells ≤ 601024) (hc2 : slots ≤ 7293034) (hn : z_next P INV i n b A xs cells slots) : z_P (z_Ev i n b A xs (fun _ => v1)) P (cells, slots, h1) (s_pc Y.1) Y.2.1 Y.2.2.1 Y.2.2.2 := by
  obtain ⟨c, L, st, F⟩ := Y
  cases c with
  | nil => cases hb
  | cons r t =>
    unfold z_leafB at hb
    simp only [Bool.and_eq_true] at hb
    obtain ⟨g1, g2, g3⟩ := hb
    split at g3
    next as9 u rest e1 =>
      simp only [Bool.and_eq_true, decide_eq_true_eq] at g3
      obtain ⟨rfl, rfl, hrest, g4⟩ := g3
      split at g4
      next ends ee =>
        intro Ls sts hL hS hF
        obtain ⟨ys, sr, hs, hl, ha, hr⟩ := z_args_g hS e1
        obtain ⟨y, zs, rfl, hy, hr2⟩ := z_gS_c hr
        have ey : y = .ref (A 60) := hy
        subst ey
        have hyas : ys = as := z_spB_eq hsp ha hag
        subst hyas
        obtain ⟨hsh, hrun⟩ := htwo
        obtain ⟨nf, f, hget⟩ := hsh.2.1
        rw [← hjm] at hget
        have hsum : g_sum zs ≤ 8 := by
          cases cmp
          · rw [cond_false] at hrest
            subst hrest
            cases zs with
            | nil => decide
            | cons _ _ => exact hr2.elim
          · rw [cond_true] at hrest
            subst hrest
            obtain ⟨z, zz, rfl, hz, hr3⟩ := z_gS_c hr2
            have ez : z = .int v1 := hz
            subst ez
            cases zz with
            | nil => exact (show 1 ≤ 8 by decide)
            | cons _ _ => exact hr3.elim
        rw [hs]
        refine z_call_ok (mc := 0) (ms := 0) hP (hY r List.mem_cons_self) g1 hget hl hsum hc1 hc2 ?_
        refine g_run_mono hrun (fun r2 h2 hp => ?_)
        obtain ⟨⟨v2, hv2, hcv⟩, hI2⟩ := hp
        have hYt : ∀ q ∈ t, s_okI code 13 q = true := fun q hq => hY q (List.mem_cons_of_mem _ hq)
        obtain ⟨k1, k2⟩ := z_run_ok (w := (cells, slots, h2)) (E := z_Ev i n b A xs (z_v2 v1 v2)) hP (hE _) z_tab_ok 100 (t, L, z_res lg :: rest, F) ends ee hYt
        have h9 : ∀ p ∈ L, p.2.1 = 9 → (fun _ => v1) p.2.2.toNat = z_v2 v1 v2 p.2.2.toNat := fun p hp h9 => by
          have := List.all_eq_true.mp g2 p hp
          simp only [Bool.or_eq_true, Bool.not_eq_true', decide_eq_true_eq] at this
          rcases this with h | h
          · rw [h9] at h
            cases h
          · show v1 = if p.2.2.toNat = 1 then v1 else v2
            rw [if_pos (by omega)]
        have hrs : z_gS (z_Ev i n b A xs (z_v2 v1 v2)) rest zs := z_nuS (fun v hv h9 => by
          cases cmp
          · rw [cond_false] at hrest
            subst hrest
            cases hv
          · rw [cond_true] at hrest
            subst hrest
            rw [List.mem_singleton] at hv
            subst hv
            rfl) hr2
        refine k2 (fun Z hZ => z_endB_ok (h := h2) hP (hE _) (k1 Z hZ) (List.all_eq_true.mp g4 Z hZ) (fun hc => ?_) hn hI2) Ls (r2.toList ++ zs) (z_nuL h9 hL) ?_ hF
        · show v1 = v2
          exact hcv hc
        · cases lg
          · have e2 : r2 = some (.int v2) := hv2
            subst e2
            exact ⟨rfl, hrs⟩
          · obtain ⟨y2, e2⟩ := hv2
            subst e2
            exact ⟨⟨y2, rfl⟩, hrs⟩
      next => cases g4
    next => cases g3
/-- from behind the class's answer on -/
theorem z_midB_ok (hP : z_cl N b xs P) (hE : ∀ ν, z_ok N b xs (z_Ev i n b A xs ν)) {jm : Nat} (hjm : (g_me jm).2.1 = 12) {spec : List Nat} {args : List z_V} {as : List Value} {cmp lg : Bool} {t : List s_I} (hY : ∀ q ∈ t, s_okI code 13 q = true) {L : z_L} {F : z_F} {v1 : Int32} {h1 : g_H} {cells slots : Nat} (hb : z_midB jm args cmp lg t L F = true) (hsp : z_spB spec args = true) (hag : z_gS (z_Ev i n b A xs (fun _ => v1)) args as) (htwo : iv_two INV A jm cmp lg as v1 h1) (hlg : lg = true → cmp = false) (hc1 : cells ≤ 601024) (hc2 : slots ≤ 7293034) (hn : z_next P INV i n b A xs cells slots) {Ls : g_L} (hL : z_gL (z_Ev i n b A xs (fun _ => v1)) L Ls) (hF : z_gF (z_Ev i n b A xs (fun _ => v1)) F) : P (s_pc t, Ls, [.int v1], cells, slots, h1) := by
  unfold z_midB at hb
  split at hb
  next ls el =>
    obtain ⟨k1, k2⟩ := z_run_ok (w := (cells, slots, h1)) (E := z_Ev i n b A xs (fun _ => v1)) hP (hE _) z_tab_ok 200 (t, L, [(9, 1)], F) ls el hY
    exact k2 (fun Z hZ => z_leafB_ok hP hE hjm (k1 Z hZ) (List.all_eq_true.mp hb Z hZ) hsp hag htwo hlg hc1 hc2 hn) Ls [.int v1] hL ⟨rfl, trivial⟩ hF
  next => cases hb
theorem z_case_ok (hP : z_cl N b xs P) (hE : ∀ ν, z_ok N b xs (z_Ev i n b A xs ν)) {jx jm : Nat} (hjx : (g_me jx).2.1 = 11) (hjm : (g_me jm).2.1 = 12) {spec : List Nat} {cmp lg : Bool} {tg : Nat} (hb : z_case jx jm spec cmp lg tg = true) (hpr : iv_pair INV A jx jm spec cmp lg) (hlg : lg = true → cmp = false) (hsh : ∀ h, INV h → iv_sh A h) {cells slots : Nat} (hc1 : cells + 10 ≤ 601024) (hc2 : slots + 133 ≤ 7293034) (hn : ∀ c' s', c' ≤ cells + 10 → s' ≤ slots + 133 → z_next P INV i n b A xs c' s') {Ls : g_L} (hL : z_gL (z_Ev i n b A xs (fun _ => 0)) z_L0 Ls) {h : g_H} (hI : INV h) : P (tg, Ls, [], cells, slots, h) := by
  unfold z_case at hb
  split at hb
  next c ec =>
    split at hb
    next ls el =>
      have hj := s_jump_mem ec
      obtain ⟨k1, k2⟩ := z_run_ok (w := (cells, slots, h)) (E := z_Ev i n b A xs (fun _ => 0)) hP (hE _) z_tab_ok 300 (c, z_L0, [], []) ls el (fun q hq => z_tab_ok q (hj.2 q hq))
      have key := k2 (fun Y hY => ?_) Ls [] hL trivial (fun q hq => by cases hq)
      · rw [show s_pc c = tg from hj.1] at key
        exact key
      · have hbY := List.all_eq_true.mp hb Y hY
        have hYI := k1 Y hY
        obtain ⟨c9, L, st, F⟩ := Y
        cases c9 with
        | nil => cases hbY
        | cons r t =>
          unfold z_leafA at hbY
          simp only [Bool.and_eq_true] at hbY
          obtain ⟨g1, g2, g3⟩ := hbY
          split at g3
          next as9 u e1 =>
            simp only [Bool.and_eq_true, decide_eq_true_eq] at g3
            obtain ⟨hsp, rfl, g4⟩ := g3
            intro Ls sts hL hS hF
            obtain ⟨ys, sr, hs, hl, ha, hr⟩ := z_args_g hS e1
            obtain ⟨y, zs, rfl, hy, hr2⟩ := z_gS_c hr
            have ey : y = .ref (A 0) := hy
            subst ey
            cases zs with
            | cons _ _ => exact hr2.elim
            | nil =>
              obtain ⟨mc, ms, m1, m2, hrun⟩ := hpr h ys hI (z_spB_ok hsp ha)
              obtain ⟨nf, f, hget⟩ := (hsh h hI).1
              rw [← hjx] at hget
              rw [hs]
              refine z_call_ok (mc := mc) (ms := ms) hP (hYI r List.mem_cons_self) g1 hget hl (by decide) (by omega) (by omega) ?_
              refine g_run_mono hrun (fun r1 h1 hp => ?_)
              obtain ⟨v1, rfl, htwo⟩ := hp
              have h9 : ∀ p ∈ L, p.2.1 = 9 → (fun _ => (0 : Int32)) p.2.2.toNat = (fun _ => v1) p.2.2.toNat := fun p hp h9 => by
                have := List.all_eq_true.mp g2 p hp
                rw [h9] at this
                cases this
              have hnd : ∀ {ks : List Nat} {vs : List z_V}, z_spB ks vs = true → ∀ v ∈ vs, ¬ v.1 = 9 := by
                intro ks
                induction ks with
                | nil =>
                  intro vs hb v hv
                  cases vs with
                  | nil => cases hv
                  | cons _ _ => cases hb
                | cons k ks ih =>
                  intro vs hb v hv
                  cases vs with
                  | nil => cases hv
                  | cons w ws =>
                    rw [z_spB, Bool.and_eq_true, Bool.and_eq_true] at hb
                    rcases List.mem_cons.mp hv with rfl | hv
                    · intro h9
                      have := hb.1
                      unfold z_det at this
                      rw [h9] at this
                      cases this
                    · exact ih hb.2.2 v hv
              exact z_midB_ok (v1 := v1) hP hE hjm (fun q hq => hYI q (List.mem_cons_of_mem _ hq)) g4 hsp (z_nuS (fun v hv h9 => absurd h9 (hnd hsp v hv)) ha) htwo hlg (by omega) (by omega) (hn _ _ (by omega) (by omega)) (z_nuL h9 hL) hF
          next => cases g3
    next => cases hb
  next => cases hb
end Z3
end
section
-- what a run doesn't write (made by wip/port/mkframe.py)
set_option maxRecDepth 20000
/-- cells of a class stay, and of their fields those that aren't in E; arrays stay, those of a kind in K as they are -/
def f_Fr (E : Nat → Nat → Bool) (K : Nat → Bool) (h h' : g_H) : Prop := (∀ (q a ci n : Nat) (f : Nat → Value), h[q]? = some (a, false, ci, n, f) → ∃ f', h'[q]? = some (a, false, ci, n, f') ∧ ∀ k, E ci k = false → f' k = f k) ∧ ∀ (q a t n : Nat) (f : Nat → Value), h[q]? = some (a, true, t, n, f) → ∃ f', h'[q]? = some (a, true, t, n, f') ∧ (K t = true → f' = f)
section F1
variable {E : Nat → Nat → Bool} {K : Nat → Bool} {h h1 h2 : g_H}
theorem f_refl : f_Fr E K h h := ⟨fun _ _ _ _ f e => ⟨f, e, fun _ _ => rfl⟩, fun _ _ _ _ f e => ⟨f, e, fun _ => rfl⟩⟩
theorem f_trans (e1 : f_Fr E K h h1) (e2 : f_Fr E K h1 h2) : f_Fr E K h h2 := by
  refine ⟨fun q a ci n f e => ?_, fun q a t n f e => ?_⟩
  · obtain ⟨f1, g1, g2⟩ := e1.1 q a ci n f e
    obtain ⟨f2, g3, g4⟩ := e2.1 q a ci n f1 g1
    exact ⟨f2, g3, fun k hk => (g4 k hk).trans (g2 k hk)⟩
  · obtain ⟨f1, g1, g2⟩ := e1.2 q a t n f e
    obtain ⟨f2, g3, g4⟩ := e2.2 q a t n f1 g1
    exact ⟨f2, g3, fun hk => (g4 hk).trans (g2 hk)⟩
theorem f_app {l : g_H} (e1 : f_Fr E K h h1) : f_Fr E K h (h1 ++ l) := by
  refine ⟨fun q a ci n f e => ?_, fun q a t n f e => ?_⟩
  · obtain ⟨f1, g1, g2⟩ := e1.1 q a ci n f e
    refine ⟨f1, ?_, g2⟩
    rw [List.getElem?_append_left (List.getElem?_eq_some_iff.mp g1).1]
    exact g1
  · obtain ⟨f1, g1, g2⟩ := e1.2 q a t n f e
    refine ⟨f1, ?_, g2⟩
    rw [List.getElem?_append_left (List.getElem?_eq_some_iff.mp g1).1]
    exact g1
theorem f_setA {q a t n : Nat} {f f' : Nat → Value} (e1 : f_Fr E K h h1) (e2 : h1[q]? = some (a, true, t, n, f)) (hK : K t = false) : f_Fr E K h (h1.set q (a, true, t, n, f')) := by
  refine ⟨fun q' a' ci n' f0 e => ?_, fun q' a' t' n' f0 e => ?_⟩
  · obtain ⟨f1, g1, g2⟩ := e1.1 q' a' ci n' f0 e
    refine ⟨f1, ?_, g2⟩
    by_cases hq : q = q'
    · subst hq
      rw [e2] at g1
      cases g1
    · rw [List.getElem?_set_ne hq]
      exact g1
  · obtain ⟨f1, g1, g2⟩ := e1.2 q' a' t' n' f0 e
    by_cases hq : q = q'
    · subst hq
      rw [e2] at g1
      cases g1
      exact ⟨f', List.getElem?_set_self (List.getElem?_eq_some_iff.mp e2).1, fun hk => by rw [hK] at hk; cases hk⟩
    · refine ⟨f1, ?_, g2⟩
      rw [List.getElem?_set_ne hq]
      exact g1
theorem f_setF {q a ci n k : Nat} {f : Nat → Value} {v : Value} (e1 : f_Fr E K h h1) (e2 : h1[q]? = some (a, false, ci, n, f)) (hk : E ci k = true) : f_Fr E K h (h1.set q (a, false, ci, n, g_up f k v)) := by
  refine ⟨fun q' a' ci' n' f0 e => ?_, fun q' a' t' n' f0 e => ?_⟩
  · obtain ⟨f1, g1, g2⟩ := e1.1 q' a' ci' n' f0 e
    by_cases hq : q = q'
    · subst hq
      rw [e2] at g1
      cases g1
      refine ⟨_, List.getElem?_set_self (List.getElem?_eq_some_iff.mp e2).1, fun k' hk' => ?_⟩
      rw [← g2 k' hk']
      unfold g_up
      split
      next e9 =>
        subst e9
        rw [hk] at hk'
        cases hk'
      next => rfl
    · refine ⟨f1, ?_, g2⟩
      rw [List.getElem?_set_ne hq]
      exact g1
  · obtain ⟨f1, g1, g2⟩ := e1.2 q' a' t' n' f0 e
    refine ⟨f1, ?_, g2⟩
    by_cases hq : q = q'
    · subst hq
      rw [e2] at g1
      cases g1
    · rw [List.getElem?_set_ne hq]
      exact g1
end F1
/-- an instruction that another stands behind -/
def f_nx : Instr → Bool
  | .goto _ => false
  | .tableswitch _ _ _ _ => false
  | .ireturn => false
  | .lreturn => false
  | .areturn => false
  | .return_ => false
  | .athrow => false
  | _ => true
def f_tg (pc : Nat) : Instr → List Int
  | .goto off => [(pc : Int) + off]
  | .ifCond _ off => [(pc : Int) + off]
  | .if_icmp _ off => [(pc : Int) + off]
  | .ifnull off => [(pc : Int) + off]
  | .ifnonnull off => [(pc : Int) + off]
  | .tableswitch d _ _ offs => (d :: offs.toList).map (fun o => (pc : Int) + o)
  | _ => []
def f_in (c : List s_I) (n : Nat) : Bool := c.any (fun r => Nat.beq r.1 n)
def f_key (o i : Nat) (p : Nat × Nat × Nat × Nat × Nat × Int × List Nat) : Bool := Nat.beq p.2.1 i && Nat.beq p.1 o
def f_no (o i : Nat) : Bool := g_lk.all (fun p => !f_key o i p)
/-- a method that isn't in B -/
def f_T (B : List Nat) (j : Nat) : Bool := Nat.blt j 302 && !y_isn j B
def f_cal (B : List Nat) (o i q kd a : Nat) : Bool := bif Nat.blt q 40 then Nat.beq kd 8 || f_T B a else f_no o i
def f_eff (E : Nat → Nat → Bool) (K : Nat → Bool) (B : List Nat) (o q kd a b : Nat) : Instr → Bool
  | .putfield i => bif Nat.blt q 40 then E a b else f_no o i
  | .invokevirtual i => f_cal B o i q kd a
  | .invokestatic i => f_cal B o i q kd a
  | .invokespecial i => f_cal B o i q kd a
  | .iastore => !K 0
  | .lastore => !K 1
  | .bastore => !K 2 && !K 3
  | .aastore => !K 4
  | _ => true
def f_ok1 (E : Nat → Nat → Bool) (K : Nat → Bool) (B : List Nat) (o : Nat) (full : List s_I) (r : s_I) (t : List s_I) : Bool := match r with
  | (pc, len, q, kd, a, b, v, ins) => f_eff E K B o q kd a b ins && ((!f_nx ins || s_go (pc, len, q, kd, a, b, v, ins) t) && (f_tg pc ins).all (fun t => decide (0 ≤ t) && f_in full t.toNat))
def f_okL (E : Nat → Nat → Bool) (K : Nat → Bool) (B : List Nat) (o : Nat) (full : List s_I) : List s_I → Bool
  | [] => true
  | r :: t => f_ok1 E K B o full r t && f_okL E K B o full t
def f_P (E : Nat → Nat → Bool) (K : Nat → Bool) (c : List s_I) (h0 : g_H) (P : g_S → Prop) (S : g_S) : Prop := f_in c S.1 = true → f_Fr E K h0 S.2.2.2.2.2 → P S
theorem f_con {ins : Instr} {x : Nat × Value} (h : g_con ins = some x) : f_nx ins = true := by
  cases ins <;> first | rfl | cases h
theorem f_load {ins : Instr} {x : Nat × Nat × (Value → Bool)} (h : g_load ins = some x) : f_nx ins = true := by
  cases ins <;> first | rfl | cases h
theorem f_stor {ins : Instr} {x : Nat × Nat × Bool × (Value → Bool)} (h : g_stor ins = some x) : f_nx ins = true := by
  cases ins <;> first | rfl | cases h
theorem f_ldc {ins : Instr} {x : Nat × Nat × Nat} (h : g_ldc ins = some x) : f_nx ins = true := by
  cases ins <;> first | rfl | cases h
theorem f_ib {ins : Instr} {x : Int32 → Int32 → Int32} (h : g_ib ins = some x) : f_nx ins = true := by
  cases ins <;> first | rfl | cases h
theorem f_id {ins : Instr} {x : Int32 → Int32 → Int32} (h : g_id ins = some x) : f_nx ins = true := by
  cases ins <;> first | rfl | cases h
theorem f_iu {ins : Instr} {x : Int32 → Int32} (h : g_iu ins = some x) : f_nx ins = true := by
  cases ins <;> first | rfl | cases h
theorem f_lb {ins : Instr} {x : Int64 → Int64 → Int64} (h : g_lb ins = some x) : f_nx ins = true := by
  cases ins <;> first | rfl | cases h
theorem f_ld {ins : Instr} {x : Int64 → Int64 → Int64} (h : g_ld ins = some x) : f_nx ins = true := by
  cases ins <;> first | rfl | cases h
def f_srt : Nat → List (Nat × Nat × Nat × Nat × Nat × Int × List Nat) → Bool
  | _, [] => true
  | k, p :: t => Nat.ble k (p.1 * 65536 + p.2.1) && f_srt (p.1 * 65536 + p.2.1 + 1) t
set_option maxRecDepth 100000 in
theorem f_srt_ok : f_srt 0 g_lk = true := by decide +kernel
theorem f_srt_ge : ∀ {l : List (Nat × Nat × Nat × Nat × Nat × Int × List Nat)} {k : Nat} {p : Nat × Nat × Nat × Nat × Nat × Int × List Nat}, f_srt k l = true → p ∈ l → k ≤ p.1 * 65536 + p.2.1
  | [], _, _, _, hp => by cases hp
  | q :: t, k, p, h, hp => by
    rw [f_srt, Bool.and_eq_true, Nat.ble_eq] at h
    rcases List.mem_cons.mp hp with rfl | hp
    · exact h.1
    · have := f_srt_ge h.2 hp
      omega
theorem f_srt_uq : ∀ {l : List (Nat × Nat × Nat × Nat × Nat × Int × List Nat)} {k : Nat} {p p' : Nat × Nat × Nat × Nat × Nat × Int × List Nat}, f_srt k l = true → p ∈ l → p' ∈ l → p.1 = p'.1 → p.2.1 = p'.2.1 → p = p'
  | [], _, _, _, _, hp, _, _, _ => by cases hp
  | q :: t, k, p, p', h, hp, hp', e1, e2 => by
    rw [f_srt, Bool.and_eq_true] at h
    rcases List.mem_cons.mp hp with h3 | h3
    · rcases List.mem_cons.mp hp' with h4 | h4
      · rw [h3, h4]
      · have := f_srt_ge h.2 h4
        rw [← h3, e1, e2] at this
        omega
    · rcases List.mem_cons.mp hp' with h4 | h4
      · have := f_srt_ge h.2 h3
        rw [e1, e2, h4] at this
        omega
      · exact f_srt_uq h.2 h3 h4 e1 e2
theorem f_no_ok {o i kd a b : Nat} {v : Int} {ps : List Nat} (h : f_no o i = true) (hm : (o, i, kd, a, b, v, ps) ∈ g_lk) : False := by
  unfold f_no at h
  have h1 := List.all_eq_true.mp h _ hm
  rw [show f_key o i (o, i, kd, a, b, v, ps) = true from by unfold f_key; simp only [Bool.and_eq_true]; exact ⟨Nat.beq_refl i, Nat.beq_refl o⟩] at h1
  cases h1
theorem f_okL_in {E : Nat → Nat → Bool} {K : Nat → Bool} {B : List Nat} {o : Nat} {full : List s_I} : ∀ {l : List s_I} {r : s_I}, f_okL E K B o full l = true → r ∈ l → ∃ t, f_ok1 E K B o full r t = true ∧ ∀ q ∈ t, q ∈ l
  | [], _, _, hr => by cases hr
  | r' :: t, r, h, hr => by
    rw [f_okL, Bool.and_eq_true] at h
    rcases List.mem_cons.mp hr with rfl | hr
    · exact ⟨t, h.1, fun q hq => List.mem_cons_of_mem _ hq⟩
    · obtain ⟨t', h1, h2⟩ := f_okL_in h.2 hr
      exact ⟨t', h1, fun q hq => List.mem_cons_of_mem _ (h2 q hq)⟩
/-- what may be said of an instruction that writes or calls -/
def f_efP (E : Nat → Nat → Bool) (K : Nat → Bool) (B : List Nat) (o : Nat) : Instr → Prop
  | .putfield i => ∀ kd ci k v ps, (o, i, kd, ci, k, v, ps) ∈ g_lk → E ci k = true
  | .invokevirtual i => ∀ kd j n v ps, (o, i, kd, j, n, v, ps) ∈ g_lk → kd = 8 ∨ f_T B j = true
  | .invokestatic i => ∀ kd j n v ps, (o, i, kd, j, n, v, ps) ∈ g_lk → kd = 8 ∨ f_T B j = true
  | .invokespecial i => ∀ kd j n v ps, (o, i, kd, j, n, v, ps) ∈ g_lk → kd = 8 ∨ f_T B j = true
  | .iastore => K 0 = false
  | .lastore => K 1 = false
  | .bastore => K 2 = false ∧ K 3 = false
  | .aastore => K 4 = false
  | _ => True
theorem f_pool {cc : ByteArray} {o pc len q kd a b : Nat} {v : Int} {ins : Instr} {i : Nat} (hI : s_okI cc o (pc, len, q, kd, a, b, v, ins) = true) (hi : s_pool ins = some i) (hq : q < 40) {kd' a' b' : Nat} {v' : Int} {ps' : List Nat} (hm : (o, i, kd', a', b', v', ps') ∈ g_lk) : kd' = kd ∧ a' = a ∧ b' = b := by
  unfold s_okI at hI
  rw [Bool.and_eq_true, Bool.and_eq_true] at hI
  have h := hI.2.2
  dsimp only at h
  rw [hi] at h
  simp only [Bool.or_eq_true, Nat.ble_eq, List.any_eq_true, Bool.and_eq_true, Nat.beq_eq] at h
  rcases h with h | ⟨p, hp, e1, e2, e3, e4, e5, -⟩
  · omega
  · have := f_srt_uq f_srt_ok hp hm e1 e2
    subst this
    exact ⟨e3, e4, e5⟩
theorem f_calP {B : List Nat} {cc : ByteArray} {o pc len q kd a b : Nat} {v : Int} {ins : Instr} {i : Nat} (hI : s_okI cc o (pc, len, q, kd, a, b, v, ins) = true) (hi : s_pool ins = some i) (h : f_cal B o i q kd a = true) : ∀ kd j n v ps, (o, i, kd, j, n, v, ps) ∈ g_lk → kd = 8 ∨ f_T B j = true := by
  intro kd' j n v' ps hm
  unfold f_cal at h
  cases e : Nat.blt q 40
  · rw [e, cond_false] at h
    exact (f_no_ok h hm).elim
  · rw [e, cond_true, Bool.or_eq_true, Nat.beq_eq] at h
    obtain ⟨h1, h2, -⟩ := f_pool hI hi (by rw [Nat.blt_eq] at e; exact e) hm
    rw [h1, h2]
    exact h
theorem f_k1 {b : Bool} (h : (!b) = true) : b = false := by
  cases b
  · rfl
  · cases h
theorem f_k2 {a b : Bool} (h : (!a && !b) = true) : a = false ∧ b = false := by
  rw [Bool.and_eq_true] at h
  exact ⟨f_k1 h.1, f_k1 h.2⟩
theorem f_effP {E : Nat → Nat → Bool} {K : Nat → Bool} {B : List Nat} {cc : ByteArray} {o pc len q kd a b : Nat} {v : Int} {ins : Instr} (hI : s_okI cc o (pc, len, q, kd, a, b, v, ins) = true) (h : f_eff E K B o q kd a b ins = true) : f_efP E K B o ins := by
  cases ins <;> first | trivial | exact f_calP hI rfl h | exact f_k1 h | exact f_k2 h | skip
  rename_i i
  intro kd' ci k v' ps hm
  have h : (bif Nat.blt q 40 then E a b else f_no o i) = true := h
  cases e : Nat.blt q 40
  · rw [e, cond_false] at h
    exact (f_no_ok h hm).elim
  · rw [e, cond_true] at h
    obtain ⟨-, h2, h3⟩ := f_pool hI rfl (by rw [Nat.blt_eq] at e; exact e) hm
    rw [h2, h3]
    exact h
theorem f_facts {E : Nat → Nat → Bool} {K : Nat → Bool} {B : List Nat} {cc : ByteArray} {o : Nat} {c : List s_I} (hI : ∀ r ∈ c, s_okI cc o r = true) (hB : f_okL E K B o c c = true) {pc len : Nat} {ins : Instr} (hin : f_in c pc = true) (hd : decode cc pc = .ok (ins, len)) : (f_nx ins = true → f_in c (pc + len) = true) ∧ (∀ t : Nat, ((t : Nat) : Int) ∈ f_tg pc ins → f_in c t = true) ∧ f_efP E K B o ins := by
  obtain ⟨r, hr, e⟩ := List.any_eq_true.mp hin
  have e := Nat.beq_eq.mp e
  have h1 := hI r hr
  obtain ⟨t, h2, ht⟩ := f_okL_in hB hr
  have h0 := h1
  unfold s_okI at h1
  rw [Bool.and_eq_true] at h1
  have h1 := h1.1
  rw [e, hd] at h1
  simp only [Bool.and_eq_true, Nat.beq_eq, decide_eq_true_eq] at h1
  obtain ⟨h3, h4, -⟩ := h1
  obtain ⟨pc', len', q, kd, a, b, v, ins'⟩ := r
  have e : pc' = pc := e
  have h3 : ins = ins' := h3
  have h4 : len = len' := h4
  subst e h3 h4
  unfold f_ok1 at h2
  simp only [Bool.and_eq_true] at h2
  obtain ⟨h5, h6, h7⟩ := h2
  refine ⟨fun hn => ?_, fun t ht => ?_, f_effP h0 h5⟩
  · rw [hn] at h6
    have h6 : s_go (pc', len, q, kd, a, b, v, ins) t = true := h6
    cases t with
    | nil => cases h6
    | cons r' t' =>
      have h6 : Nat.beq r'.1 (pc' + len) = true := h6
      exact List.any_eq_true.mpr ⟨r', ht r' List.mem_cons_self, h6⟩
  · have h8 := List.all_eq_true.mp h7 _ ht
    rw [Bool.and_eq_true] at h8
    have := h8.2
    rw [Int.toNat_natCast] at this
    exact this
section F2
variable {CALL : Nat → List Value → g_H → Nat → Nat → (Option Value → g_H → Prop) → Prop} {o nL : Nat} {ini : Bool} {bc bs : Nat} {cc : ByteArray} {P : g_S → Prop} {E : Nat → Nat → Bool} {K : Nat → Bool} {B : List Nat} {c : List s_I} {h0 : g_H}
theorem f_cl (hcl : ∀ S, g_pre CALL o nL ini bc bs cc P S → P S) (hI : ∀ r ∈ c, s_okI cc o r = true) (hB : f_okL E K B o c c = true) (hC : ∀ (j : Nat) (as : List Value) (h : g_H) (mc ms : Nat) (p1 p2 : Option Value → g_H → Prop), f_T B j = true → CALL j as h mc ms p1 → (∀ r h', p1 r h' → f_Fr E K h h' → p2 r h') → CALL j as h mc ms p2) : ∀ S, g_pre CALL o nL ini bc bs cc (f_P E K c h0 P) S → f_P E K c h0 P S := by
  intro S hS hin hF
  obtain ⟨pc, L, st, cn, sn, h⟩ := S
  have hin : f_in c pc = true := hin
  have hF : f_Fr E K h0 h := hF
  obtain ⟨ins, len, hd, hrows⟩ := hS
  have hd : decode cc pc = .ok (ins, len) := hd
  obtain ⟨nx, tg, ef⟩ := f_facts hI hB hin hd
  refine hcl _ ⟨ins, len, hd, ?_⟩
  rcases hrows with hR | hR | hR | hR | hR
  · rcases hR with hR | hR | hR | hR | hR | hR | hR | hR | hR | hR | hR | hR
    · obtain ⟨v, e, hp⟩ := hR
      exact Or.inl (Or.inl (⟨v, e, hp (nx (f_con e)) hF⟩))
    · obtain ⟨i, t, v, e, hm, ht, hp⟩ := hR
      exact Or.inl (Or.inr (Or.inl (⟨i, t, v, e, hm, ht, hp (nx (f_load e)) hF⟩)))
    · obtain ⟨i, t, v, rest, e, hs, ht, hl, hp⟩ := hR
      exact Or.inl (Or.inr (Or.inr (Or.inl (⟨i, t, v, rest, e, hs, ht, hl, hp (nx (f_stor e)) hF⟩))))
    · obtain ⟨i, t, v, rest, e, hs, ht, hl, hp⟩ := hR
      exact Or.inl (Or.inr (Or.inr (Or.inr (Or.inl (⟨i, t, v, rest, e, hs, ht, hl, hp (nx (f_stor e)) hF⟩)))))
    · obtain ⟨i, n, x, rfl, hl, hm, hi, hp⟩ := hR
      exact Or.inl (Or.inr (Or.inr (Or.inr (Or.inr (Or.inl (⟨i, n, x, rfl, hl, hm, hi, hp (nx (rfl)) hF⟩))))))
    · obtain ⟨v, rest, rfl, rfl, hs, hv, hp⟩ := hR
      exact Or.inl (Or.inr (Or.inr (Or.inr (Or.inr (Or.inr (Or.inl (⟨v, rest, rfl, rfl, hs, hv, hp (nx (rfl)) hF⟩)))))))
    · obtain ⟨v, rest, rfl, rfl, hs, hv, hp⟩ := hR
      exact Or.inl (Or.inr (Or.inr (Or.inr (Or.inr (Or.inr (Or.inr (Or.inl (⟨v, rest, rfl, rfl, hs, hv, hp (nx (rfl)) hF⟩))))))))
    · obtain ⟨v, u, rest, rfl, rfl, hs, hv, hu, hp⟩ := hR
      exact Or.inl (Or.inr (Or.inr (Or.inr (Or.inr (Or.inr (Or.inr (Or.inr (Or.inl (⟨v, u, rest, rfl, rfl, hs, hv, hu, hp (nx (rfl)) hF⟩)))))))))
    · obtain ⟨v, u, rest, rfl, rfl, hs, hv, hu, hp⟩ := hR
      exact Or.inl (Or.inr (Or.inr (Or.inr (Or.inr (Or.inr (Or.inr (Or.inr (Or.inr (Or.inl (⟨v, u, rest, rfl, rfl, hs, hv, hu, hp (nx (rfl)) hF⟩))))))))))
    · obtain ⟨v, rest, rfl, rfl, hs, hv, hp⟩ := hR
      exact Or.inl (Or.inr (Or.inr (Or.inr (Or.inr (Or.inr (Or.inr (Or.inr (Or.inr (Or.inr (Or.inl (⟨v, rest, rfl, rfl, hs, hv, hp (nx (rfl)) hF⟩)))))))))))
    · obtain ⟨i, kd, a0, b0, v, ps, e, hm, hp⟩ := hR
      exact Or.inl (Or.inr (Or.inr (Or.inr (Or.inr (Or.inr (Or.inr (Or.inr (Or.inr (Or.inr (Or.inr (Or.inl (⟨i, kd, a0, b0, v, ps, e, hm, hp (nx (f_ldc e)) hF⟩))))))))))))
    · obtain ⟨i, kd, a0, b0, v, ps, rfl, rfl, hk, hm, hp⟩ := hR
      exact Or.inl (Or.inr (Or.inr (Or.inr (Or.inr (Or.inr (Or.inr (Or.inr (Or.inr (Or.inr (Or.inr (Or.inr (⟨i, kd, a0, b0, v, ps, rfl, rfl, hk, hm, hp (nx (rfl)) hF⟩))))))))))))
  · rcases hR with hR | hR | hR | hR | hR | hR | hR | hR | hR | hR | hR | hR | hR
    · obtain ⟨f, x, y, rest, e, rfl, hs, hp⟩ := hR
      exact Or.inr (Or.inl (Or.inl (⟨f, x, y, rest, e, rfl, hs, hp (nx (f_ib e)) hF⟩)))
    · obtain ⟨f, x, y, rest, e, rfl, hy, hs, hp⟩ := hR
      exact Or.inr (Or.inl (Or.inr (Or.inl (⟨f, x, y, rest, e, rfl, hy, hs, hp (nx (f_id e)) hF⟩))))
    · obtain ⟨f, x, rest, e, rfl, hs, hp⟩ := hR
      exact Or.inr (Or.inl (Or.inr (Or.inr (Or.inl (⟨f, x, rest, e, rfl, hs, hp (nx (f_iu e)) hF⟩)))))
    · obtain ⟨f, x, y, rest, e, rfl, hs, hp⟩ := hR
      exact Or.inr (Or.inl (Or.inr (Or.inr (Or.inr (Or.inl (⟨f, x, y, rest, e, rfl, hs, hp (nx (f_lb e)) hF⟩))))))
    · obtain ⟨f, x, y, rest, e, rfl, hy, hs, hp⟩ := hR
      exact Or.inr (Or.inl (Or.inr (Or.inr (Or.inr (Or.inr (Or.inl (⟨f, x, y, rest, e, rfl, hy, hs, hp (nx (f_ld e)) hF⟩)))))))
    · obtain ⟨x, rest, rfl, rfl, hs, hp⟩ := hR
      exact Or.inr (Or.inl (Or.inr (Or.inr (Or.inr (Or.inr (Or.inr (Or.inl (⟨x, rest, rfl, rfl, hs, hp (nx (rfl)) hF⟩))))))))
    · obtain ⟨x, y, rest, rfl, rfl, hs, hp⟩ := hR
      exact Or.inr (Or.inl (Or.inr (Or.inr (Or.inr (Or.inr (Or.inr (Or.inr (Or.inl (⟨x, y, rest, rfl, rfl, hs, hp (nx (rfl)) hF⟩)))))))))
    · obtain ⟨x, rest, rfl, rfl, hs, hp⟩ := hR
      exact Or.inr (Or.inl (Or.inr (Or.inr (Or.inr (Or.inr (Or.inr (Or.inr (Or.inr (Or.inl (⟨x, rest, rfl, rfl, hs, hp (nx (rfl)) hF⟩))))))))))
    · obtain ⟨x, rest, rfl, rfl, hs, hp⟩ := hR
      exact Or.inr (Or.inl (Or.inr (Or.inr (Or.inr (Or.inr (Or.inr (Or.inr (Or.inr (Or.inr (Or.inl (⟨x, rest, rfl, rfl, hs, hp (nx (rfl)) hF⟩)))))))))))
    · obtain ⟨x, rest, rfl, rfl, hs, hp⟩ := hR
      exact Or.inr (Or.inl (Or.inr (Or.inr (Or.inr (Or.inr (Or.inr (Or.inr (Or.inr (Or.inr (Or.inr (Or.inl (⟨x, rest, rfl, rfl, hs, hp (nx (rfl)) hF⟩))))))))))))
    · obtain ⟨x, y, rest, rfl, rfl, hv, hs, hp⟩ := hR
      exact Or.inr (Or.inl (Or.inr (Or.inr (Or.inr (Or.inr (Or.inr (Or.inr (Or.inr (Or.inr (Or.inr (Or.inr (Or.inl (⟨x, y, rest, rfl, rfl, hv, hs, hp (nx (rfl)) hF⟩)))))))))))))
    · obtain ⟨x, y, rest, rfl, rfl, hv, hs, hp⟩ := hR
      exact Or.inr (Or.inl (Or.inr (Or.inr (Or.inr (Or.inr (Or.inr (Or.inr (Or.inr (Or.inr (Or.inr (Or.inr (Or.inr (Or.inl (⟨x, y, rest, rfl, rfl, hv, hs, hp (nx (rfl)) hF⟩))))))))))))))
    · obtain ⟨op, x, y, rest, rfl, rfl, hs, hp⟩ := hR
      exact Or.inr (Or.inl (Or.inr (Or.inr (Or.inr (Or.inr (Or.inr (Or.inr (Or.inr (Or.inr (Or.inr (Or.inr (Or.inr (Or.inr (⟨op, x, y, rest, rfl, rfl, hs, hp (nx (rfl)) hF⟩))))))))))))))
  · rcases hR with hR | hR | hR | hR | hR | hR
    · obtain ⟨off, t, rfl, rfl, ht, hp⟩ := hR
      exact Or.inr (Or.inr (Or.inl (Or.inl (⟨off, t, rfl, rfl, ht, hp (tg t (by rw [← ht]; exact List.mem_cons_self)) hF⟩))))
    · obtain ⟨cd, off, t, x, rest, rfl, rfl, ht, hs, hp⟩ := hR
      exact Or.inr (Or.inr (Or.inl (Or.inr (Or.inl (⟨cd, off, t, x, rest, rfl, rfl, ht, hs, by
      have hp : f_P E K c h0 P (if g_c1 x cd = true then t else pc + 3, L, rest, cn, sn, h) := hp
      show P (if g_c1 x cd = true then t else pc + 3, L, rest, cn, sn, h)
      split at hp
      next e => rw [if_pos e]; exact hp (tg t (by rw [← ht]; exact List.mem_cons_self)) hF
      next e => rw [if_neg e]; exact hp (nx rfl) hF⟩)))))
    · obtain ⟨cd, off, t, x, y, rest, rfl, rfl, ht, hs, hp⟩ := hR
      exact Or.inr (Or.inr (Or.inl (Or.inr (Or.inr (Or.inl (⟨cd, off, t, x, y, rest, rfl, rfl, ht, hs, by
      have hp : f_P E K c h0 P (if g_c2 x y cd = true then t else pc + 3, L, rest, cn, sn, h) := hp
      show P (if g_c2 x y cd = true then t else pc + 3, L, rest, cn, sn, h)
      split at hp
      next e => rw [if_pos e]; exact hp (tg t (by rw [← ht]; exact List.mem_cons_self)) hF
      next e => rw [if_neg e]; exact hp (nx rfl) hF⟩))))))
    · obtain ⟨off, t, a, rest, rfl, rfl, ht, hp⟩ := hR
      exact Or.inr (Or.inr (Or.inl (Or.inr (Or.inr (Or.inr (Or.inl (⟨off, t, a, rest, rfl, rfl, ht, by
      rcases hp with ⟨hs, hp⟩ | ⟨hs, hp⟩
      · exact Or.inl ⟨hs, hp (tg t (by rw [← ht]; exact List.mem_cons_self)) hF⟩
      · exact Or.inr ⟨hs, hp (nx rfl) hF⟩⟩)))))))
    · obtain ⟨off, t, a, rest, rfl, rfl, ht, hp⟩ := hR
      exact Or.inr (Or.inr (Or.inl (Or.inr (Or.inr (Or.inr (Or.inr (Or.inl (⟨off, t, a, rest, rfl, rfl, ht, by
      rcases hp with ⟨hs, hp⟩ | ⟨hs, hp⟩
      · exact Or.inl ⟨hs, hp (nx rfl) hF⟩
      · exact Or.inr ⟨hs, hp (tg t (by rw [← ht]; exact List.mem_cons_self)) hF⟩⟩))))))))
    · obtain ⟨dflt, lo, hi, offs, x, rest, off, t, rfl, hs, ht, hsel, hp⟩ := hR
      exact Or.inr (Or.inr (Or.inl (Or.inr (Or.inr (Or.inr (Or.inr (Or.inr (⟨dflt, lo, hi, offs, x, rest, off, t, rfl, hs, ht, hsel, hp (tg t (by
      rw [← ht]
      refine List.mem_map.mpr ⟨off, ?_, rfl⟩
      rcases hsel with ⟨-, -, h3⟩ | ⟨-, h3⟩
      · exact List.mem_cons_of_mem _ (Array.mem_toList_iff.mpr (Array.mem_of_getElem? h3))
      · rw [h3]; exact List.mem_cons_self)) hF⟩))))))))
  · rcases hR with hR | hR | hR | hR | hR | hR | hR | hR | hR | hR | hR | hR | hR | hR | hR
    · obtain ⟨i, kd, ci, k, v0, ps, q, a, n, f, rest, rfl, rfl, hkd, hm, hs, hg, hk, hp⟩ := hR
      exact Or.inr (Or.inr (Or.inr (Or.inl (Or.inl (⟨i, kd, ci, k, v0, ps, q, a, n, f, rest, rfl, rfl, hkd, hm, hs, hg, hk, hp (nx rfl) hF⟩)))))
    · obtain ⟨i, kd, ci, k, v0, ps, q, a, n, f, v, ty, rest, rfl, rfl, hkd, hm, hs, hg, hk, hf, ht, hn, hft, hp⟩ := hR
      exact Or.inr (Or.inr (Or.inr (Or.inl (Or.inr (Or.inl (⟨i, kd, ci, k, v0, ps, q, a, n, f, v, ty, rest, rfl, rfl, hkd, hm, hs, hg, hk, hf, ht, hn, hft, hp (nx rfl) (f_setF hF hg (ef _ _ _ _ _ hm))⟩))))))
    · obtain ⟨q, a, n, f, j, rest, rfl, rfl, hs, hg, hv, hp⟩ := hR
      exact Or.inr (Or.inr (Or.inr (Or.inl (Or.inr (Or.inr (Or.inl (⟨q, a, n, f, j, rest, rfl, rfl, hs, hg, hv, hp (nx rfl) hF⟩)))))))
    · obtain ⟨q, a, n, f, j, rest, rfl, rfl, hs, hg, hv, hp⟩ := hR
      exact Or.inr (Or.inr (Or.inr (Or.inl (Or.inr (Or.inr (Or.inr (Or.inl (⟨q, a, n, f, j, rest, rfl, rfl, hs, hg, hv, hp (nx rfl) hF⟩))))))))
    · obtain ⟨q, a, t, n, f, j, rest, rfl, rfl, hs, ht, hg, hv, hp⟩ := hR
      exact Or.inr (Or.inr (Or.inr (Or.inl (Or.inr (Or.inr (Or.inr (Or.inr (Or.inl (⟨q, a, t, n, f, j, rest, rfl, rfl, hs, ht, hg, hv, hp (nx rfl) hF⟩)))))))))
    · obtain ⟨q, a, n, f, j, rest, rfl, rfl, hs, hg, hv, hp⟩ := hR
      exact Or.inr (Or.inr (Or.inr (Or.inl (Or.inr (Or.inr (Or.inr (Or.inr (Or.inr (Or.inl (⟨q, a, n, f, j, rest, rfl, rfl, hs, hg, hv, hp (nx rfl) hF⟩))))))))))
    · obtain ⟨q, a, n, f, j, x, rest, rfl, rfl, hs, hg, hv, hp⟩ := hR
      exact Or.inr (Or.inr (Or.inr (Or.inl (Or.inr (Or.inr (Or.inr (Or.inr (Or.inr (Or.inr (Or.inl (⟨q, a, n, f, j, x, rest, rfl, rfl, hs, hg, hv, hp (nx rfl) (f_setA hF hg ef)⟩)))))))))))
    · obtain ⟨q, a, n, f, j, x, rest, rfl, rfl, hs, hg, hv, hp⟩ := hR
      exact Or.inr (Or.inr (Or.inr (Or.inl (Or.inr (Or.inr (Or.inr (Or.inr (Or.inr (Or.inr (Or.inr (Or.inl (⟨q, a, n, f, j, x, rest, rfl, rfl, hs, hg, hv, hp (nx rfl) (f_setA hF hg ef)⟩))))))))))))
    · obtain ⟨q, a, n, f, j, x, rest, rfl, rfl, hs, hg, hv, hp⟩ := hR
      exact Or.inr (Or.inr (Or.inr (Or.inl (Or.inr (Or.inr (Or.inr (Or.inr (Or.inr (Or.inr (Or.inr (Or.inr (Or.inl (⟨q, a, n, f, j, x, rest, rfl, rfl, hs, hg, hv, hp (nx rfl) (f_setA hF hg ef.1)⟩)))))))))))))
    · obtain ⟨q, a, n, f, j, x, rest, rfl, rfl, hs, hg, hv, hp⟩ := hR
      exact Or.inr (Or.inr (Or.inr (Or.inl (Or.inr (Or.inr (Or.inr (Or.inr (Or.inr (Or.inr (Or.inr (Or.inr (Or.inr (Or.inl (⟨q, a, n, f, j, x, rest, rfl, rfl, hs, hg, hv, hp (nx rfl) (f_setA hF hg ef.2)⟩))))))))))))))
    · obtain ⟨q, a, n, f, j, v, qk, nk, fk, rest, rfl, rfl, hs, hg, hgk, hv, hp⟩ := hR
      exact Or.inr (Or.inr (Or.inr (Or.inl (Or.inr (Or.inr (Or.inr (Or.inr (Or.inr (Or.inr (Or.inr (Or.inr (Or.inr (Or.inr (Or.inl (⟨q, a, n, f, j, v, qk, nk, fk, rest, rfl, rfl, hs, hg, hgk, hv, hp (nx rfl) (f_setA hF hg ef)⟩)))))))))))))))
    · obtain ⟨q, a, t, n, f, rest, rfl, rfl, hs, ht, hg, hp⟩ := hR
      exact Or.inr (Or.inr (Or.inr (Or.inl (Or.inr (Or.inr (Or.inr (Or.inr (Or.inr (Or.inr (Or.inr (Or.inr (Or.inr (Or.inr (Or.inr (Or.inl (⟨q, a, t, n, f, rest, rfl, rfl, hs, ht, hg, hp (nx rfl) hF⟩))))))))))))))))
    · obtain ⟨t, x, N, rest, rfl, rfl, ht, hs, hx, hN, hN2, hc1, hc2, hp⟩ := hR
      exact Or.inr (Or.inr (Or.inr (Or.inl (Or.inr (Or.inr (Or.inr (Or.inr (Or.inr (Or.inr (Or.inr (Or.inr (Or.inr (Or.inr (Or.inr (Or.inr (Or.inl (⟨t, x, N, rest, rfl, rfl, ht, hs, hx, hN, hN2, hc1, hc2, fun q => hp q (nx rfl) (f_app hF)⟩)))))))))))))))))
    · obtain ⟨i, ps, x, N, rest, b, v, rfl, rfl, hm, hs, hx, hN, hN2, hc1, hc2, hp⟩ := hR
      exact Or.inr (Or.inr (Or.inr (Or.inl (Or.inr (Or.inr (Or.inr (Or.inr (Or.inr (Or.inr (Or.inr (Or.inr (Or.inr (Or.inr (Or.inr (Or.inr (Or.inr (Or.inl (⟨i, ps, x, N, rest, b, v, rfl, rfl, hm, hs, hx, hN, hN2, hc1, hc2, fun q => hp q (nx rfl) (f_app hF)⟩))))))))))))))))))
    · obtain ⟨i, ci, N, v, ps, rfl, rfl, hm, hc1, hc2, hp⟩ := hR
      exact Or.inr (Or.inr (Or.inr (Or.inl (Or.inr (Or.inr (Or.inr (Or.inr (Or.inr (Or.inr (Or.inr (Or.inr (Or.inr (Or.inr (Or.inr (Or.inr (Or.inr (Or.inr (⟨i, ci, N, v, ps, rfl, rfl, hm, hc1, hc2, fun q => hp q (nx rfl) (f_app hF)⟩))))))))))))))))))
  · rcases hR with hR | hR | hR | hR
    · obtain ⟨i, kd, j, n, v, ps, As, b, rest, q, nf, f, mc, ms, rfl, rfl, hkd, hm, hs, hl, hg, hr, hc1, hc2, hcall⟩ := hR
      exact Or.inr (Or.inr (Or.inr (Or.inr (Or.inl (⟨i, kd, j, n, v, ps, As, b, rest, q, nf, f, mc, ms, rfl, rfl, hkd, hm, hs, hl, hg, hr, hc1, hc2, hC j _ _ mc ms _ _ ((ef _ _ _ _ _ hm).resolve_left (by omega)) hcall (fun r h9 hp hF9 => hp (nx rfl) (f_trans hF hF9))⟩)))))
    · obtain ⟨i, kd, j, n, v, ps, As, rest, mc, ms, rfl, rfl, hkd, hm, hs, hl, hr, hc1, hc2, hcall⟩ := hR
      exact Or.inr (Or.inr (Or.inr (Or.inr (Or.inr (Or.inl (⟨i, kd, j, n, v, ps, As, rest, mc, ms, rfl, rfl, hkd, hm, hs, hl, hr, hc1, hc2, hC j _ _ mc ms _ _ ((ef _ _ _ _ _ hm).resolve_left (by omega)) hcall (fun r h9 hp hF9 => hp (nx rfl) (f_trans hF hF9))⟩))))))
    · obtain ⟨i, kd, j, n, v, ps, As, b, rest, mc, ms, rfl, rfl, hkd, hm, hs, hl, hr, hc1, hc2, hcall⟩ := hR
      exact Or.inr (Or.inr (Or.inr (Or.inr (Or.inr (Or.inr (Or.inl (⟨i, kd, j, n, v, ps, As, b, rest, mc, ms, rfl, rfl, hkd, hm, hs, hl, hr, hc1, hc2, hC j _ _ mc ms _ _ ((ef _ _ _ _ _ hm).resolve_left (by omega)) hcall (fun r h9 hp hF9 => hp (nx rfl) (f_trans hF hF9))⟩)))))))
    · obtain ⟨i, a0, b0, v, ps, a, rest, rfl, rfl, hm, hs, hr, hp⟩ := hR
      exact Or.inr (Or.inr (Or.inr (Or.inr (Or.inr (Or.inr (Or.inr (⟨i, a0, b0, v, ps, a, rest, rfl, rfl, hm, hs, hr, hp (nx rfl) hF⟩)))))))
end F2
def f_chk (E : Nat → Nat → Bool) (K : Nat → Bool) (B : List Nat) (j : Nat) : Bool := match s_mi[j]? with
  | some q => f_in (s_codes.getD j []) 0 && f_okL E K B q.2.2.2.2.2 (s_codes.getD j []) (s_codes.getD j [])
  | none => false
def f_TB (E : Nat → Nat → Bool) (K : Nat → Bool) (B : List Nat) (lo n : Nat) : Bool := (List.range n).all (fun i => y_isn (lo + i) B || f_chk E K B (lo + i))
theorem f_TB_at {E : Nat → Nat → Bool} {K : Nat → Bool} {B : List Nat} {lo n j : Nat} (h : f_TB E K B lo n = true) (h1 : lo ≤ j) (h2 : j < lo + n) (hj : f_T B j = true) : f_chk E K B j = true := by
  have h3 := List.all_eq_true.mp h (j - lo) (List.mem_range.mpr (by omega))
  rw [show lo + (j - lo) = j by omega, Bool.or_eq_true] at h3
  unfold f_T at hj
  rw [Bool.and_eq_true, Bool.not_eq_true'] at hj
  rw [hj.2] at h3
  exact h3.resolve_left (by decide)
def f_all (E : Nat → Nat → Bool) (K : Nat → Bool) (B : List Nat) : Prop := ∀ j, f_T B j = true → f_chk E K B j = true
theorem f_T1 {E : Nat → Nat → Bool} {K : Nat → Bool} {B : List Nat} (hT : f_all E K B) {j : Nat} (hj : f_T B j = true) : f_in (s_codes.getD j []) 0 = true ∧ (∀ r ∈ s_codes.getD j [], s_okI (g_by j) (g_me j).2.1 r = true) ∧ f_okL E K B (g_me j).2.1 (s_codes.getD j []) (s_codes.getD j []) = true := by
  have h1 := hT j hj
  unfold f_chk at h1
  split at h1
  next q e =>
    rw [Bool.and_eq_true] at h1
    have m := (s_mi_ok j q e).2.2.2.2
    refine ⟨h1.1, ?_, ?_⟩
    · rw [m]
      exact (s_codes_ok j q e).2
    · rw [m]
      exact h1.2
  next => cases h1
theorem f_end {cc : ByteArray} {rt : Option FieldType} {bc bs : Nat} {p1 p2 : Option Value → g_H → Prop} {S : g_S} (hS : g_end cc rt bc bs p1 S) (hp : ∀ r, p1 r S.2.2.2.2.2 → p2 r S.2.2.2.2.2) : g_end cc rt bc bs p2 S := by
  obtain ⟨e1, e2, e3⟩ := hS
  refine ⟨e1, e2, ?_⟩
  rcases e3 with ⟨v, ty, a1, a2, a3, a4, a5⟩ | ⟨v, a1, a2, a3, a4⟩ | ⟨v, n, a1, a2, a3, a4, a5⟩ | ⟨a1, a2, a3, a4⟩
  · exact Or.inl ⟨v, ty, a1, a2, a3, a4, hp _ a5⟩
  · exact Or.inr (Or.inl ⟨v, a1, a2, a3, hp _ a4⟩)
  · exact Or.inr (Or.inr (Or.inl ⟨v, n, a1, a2, a3, a4, hp _ a5⟩))
  · exact Or.inr (Or.inr (Or.inr ⟨a1, a2, a3, hp _ a4⟩))
/-- a run's frame -/
theorem f_run {E : Nat → Nat → Bool} {K : Nat → Bool} {B : List Nat} (hT : f_all E K B) : ∀ (d j : Nat) (as : List Value) (h : g_H) (mc ms : Nat) (p1 p2 : Option Value → g_H → Prop), f_T B j = true → g_run d j as h mc ms p1 → (∀ r h', p1 r h' → f_Fr E K h h' → p2 r h') → g_run d j as h mc ms p2
  | 0, _, _, _, _, _, _, _, _, hr, _ => hr.elim
  | d + 1, j, as, h, mc, ms, p1, p2, hj, hr, hp => by
    obtain ⟨m1, m2, hwp⟩ := hr
    obtain ⟨t1, t2, t3⟩ := f_T1 hT hj
    refine ⟨m1, m2, fun P hend hcl => ?_⟩
    exact hwp (f_P E K (s_codes.getD j []) h P) (fun S hS _ hF => hend S (f_end hS (fun r h1 => hp r _ h1 hF))) (f_cl hcl t2 t3 (f_run hT d)) t1 f_refl
end
section
-- the law's loop
set_option maxRecDepth 20000
def z_offs : List Int := [213, 274, 335, 372, 433, 470, 483, 523, 548, 561, 574, 599, 636, 673, 698, 735, 784, 833, 858, 895, 920, 945, 958, 995, 1032, 1057, 1082, 1131, 1156, 1169, 1182, 1243, 1280, 1329, 1378, 1403, 1428, 1441, 1494, 1547, 1572, 1585, 1598, 1611, 1672, 1685, 1710, 1735, 1772, 1797]
set_option maxRecDepth 100000 in
theorem z_dec : decode code 23 = .ok (.iload 4, 2) ∧ decode code 25 = .ok (.aload_n 0, 1) ∧ decode code 26 = .ok (.arraylength, 1) ∧ decode code 27 = .ok (.iconst 5, 1) ∧ decode code 28 = .ok (.isub, 1) ∧ decode code 29 = .ok (.if_icmp .gt 1841, 3) ∧ decode code 1870 = .ok (.iconst 1, 1) ∧ decode code 1871 = .ok (.ireturn, 1) ∧ decode code 39 = .ok (.tableswitch 1825 0 49 z_offs.toArray, 213) := by decide +kernel
def z_sw (Y : z_X) : Bool := match Y with
  | (r :: _, L, st, F) => Nat.beq r.1 39 && (decide (st = [(0, 0)]) && (decide (L = z_L0) && F.isEmpty))
  | _ => false
def z_32 : Bool := match s_jump z_tab 32 with
  | some c => (match z_run z_tab [39] 100 (c, z_L0, [], []) with
    | some ls => ls.all z_sw
    | none => false)
  | none => false
def z_df : Bool := match s_jump z_tab 1864 with
  | some c => (match z_run z_tab [23] 100 (c, z_L0, [], []) with
    | some ls => ls.all z_at23
    | none => false)
  | none => false
set_option maxRecDepth 100000 in
theorem z_32_ok : z_32 = true := by decide +kernel
set_option maxRecDepth 100000 in
theorem z_df_ok : z_df = true := by decide +kernel
section Z4
variable {N b : Nat} {xs : Nat → Int32} {P : g_S → Prop} {A : Nat → Nat} {INV : g_H → Prop}
theorem z_default (hP : z_cl N b xs P) {i : Int} (hE : z_ok N b xs (z_Ev i N b A xs (fun _ => 0))) {cells slots : Nat} (hn : z_next P INV i N b A xs cells slots) {Ls : g_L} (hL : z_gL (z_Ev i N b A xs (fun _ => 0)) z_L0 Ls) {h : g_H} (hI : INV h) : P (1864, Ls, [], cells, slots, h) := by
  have hb := z_df_ok
  unfold z_df at hb
  split at hb
  next c ec =>
    split at hb
    next ls el =>
      have hj := s_jump_mem ec
      obtain ⟨k1, k2⟩ := z_run_ok (w := (cells, slots, h)) hP hE z_tab_ok 100 (c, z_L0, [], []) ls el (fun q hq => z_tab_ok q (hj.2 q hq))
      have key := k2 (fun Y hY => z_at23_ok (List.all_eq_true.mp hb Y hY) hn hI) Ls [] hL trivial (fun q hq => by cases hq)
      rw [show s_pc c = 1864 from hj.1] at key
      exact key
    next => cases hb
  next => cases hb
/-- the loop, where each case comes to the loop's head again -/
theorem z_loop (hP : z_cl N b xs P) (hN : N ≤ 2560) (hend : ∀ (Ls : g_L) (cells slots : Nat) (h : g_H), cells ≤ 601024 → slots ≤ 7293034 → P (1871, Ls, [.int 1], cells, slots, h))
    (hcase : ∀ (k : Nat) (off : Int), z_offs[k]? = some off → ∀ (i : Int), (∀ ν, z_ok N b xs (z_Ev i N b A xs ν)) → ∀ (cells slots : Nat), cells + 10 ≤ 601024 → slots + 133 ≤ 7293034 → (∀ c' s', c' ≤ cells + 10 → s' ≤ slots + 133 → z_next P INV i N b A xs c' s') → ∀ (Ls : g_L), z_gL (z_Ev i N b A xs (fun _ => 0)) z_L0 Ls → ∀ h, INV h → P ((39 + off).toNat, Ls, [], cells, slots, h)) :
    ∀ (f t : Nat), N + 4 < 5 * t + 5 * f → 5 * t ≤ N + 4 → ∀ (cells slots : Nat), cells ≤ 107 + 10 * t → slots ≤ 9636 + 133 * t → z_next P INV (5 * (t : Int) - 5) N b A xs cells slots := by
  obtain ⟨d23, d25, d26, d27, d28, d29, d1870, d1871, d39⟩ := z_dec
  intro f
  induction f with
  | zero => intro t h1 h2; omega
  | succ f ih =>
    intro t h1 h2 cells slots hc hs Ls h hL hI
    have hi : 5 * (t : Int) - 5 + 5 = 5 * (t : Int) := by omega
    rw [hi] at hL
    obtain ⟨x4, m4, y4, e4, v4⟩ := hL (4, (1, 0)) (by decide)
    subst e4
    have v4 : y4.toInt = 5 * (t : Int) + 0 := v4
    obtain ⟨x0, m0, e0⟩ := hL (0, (4, 0)) (by decide)
    have e0 : x0 = .ref b := e0
    subst e0
    refine hP.1 _ ⟨_, _, d23, Or.inl (Or.inr (Or.inl ⟨4, _, _, rfl, m4, rfl, ?_⟩))⟩
    refine hP.1 _ ⟨_, _, d25, Or.inl (Or.inr (Or.inl ⟨0, _, _, rfl, m0, rfl, ?_⟩))⟩
    refine hP.2.1 26 Ls [.int y4] _ d26 ?_
    refine hP.1 _ ⟨_, _, d27, Or.inl (Or.inl ⟨_, rfl, ?_⟩)⟩
    refine hP.1 _ ⟨_, _, d28, Or.inr (Or.inl (Or.inl ⟨_, _, _, _, rfl, rfl, rfl, ?_⟩))⟩
    have hn5 : (Int32.ofNat N - Int32.ofInt 5).toInt = (N : Int) - 5 := by
      rw [Int32.toInt_sub, Int32.toInt_ofNat_of_lt (show N < 2 ^ 31 by omega), z_i32 (by omega) (by omega)]
      apply Int.bmod_eq_of_le <;> omega
    refine hP.1 _ ⟨_, _, d29, Or.inr (Or.inr (Or.inl (Or.inr (Or.inr (Or.inl ⟨_, _, 1870, _, _, _, rfl, rfl, rfl, rfl, ?_⟩)))))⟩
    rw [h_c2]
    by_cases hgt : (N : Int) - 5 < 5 * (t : Int)
    · rw [if_pos (by
        show h_ci y4.toInt (Int32.ofNat N - Int32.ofInt 5).toInt ClassFile.Cond.gt = true
        rw [hn5, v4]
        exact decide_eq_true (by omega))]
      refine hP.1 _ ⟨_, _, d1870, Or.inl (Or.inl ⟨_, rfl, ?_⟩)⟩
      exact hend Ls cells slots h (by omega) (by omega)
    · rw [if_neg (by
        show ¬ h_ci y4.toInt (Int32.ofNat N - Int32.ofInt 5).toInt ClassFile.Cond.gt = true
        rw [hn5, v4]
        intro hh
        have := of_decide_eq_true hh
        omega)]
      have hE : ∀ ν, z_ok N b xs (z_Ev (5 * (t : Int)) N b A xs ν) := fun ν => ⟨by show (0 : Int) ≤ 5 * (t : Int); omega, by show 5 * (t : Int) + 5 ≤ (N : Int); omega, by show (N : Int) ≤ 2560; omega, rfl, rfl, rfl⟩
      have hL' : z_gL (z_Ev (5 * (t : Int)) N b A xs (fun _ => 0)) z_L0 Ls := hL
      have hnx : ∀ c' s', c' ≤ cells + 10 → s' ≤ slots + 133 → z_next P INV (5 * (t : Int)) N b A xs c' s' := fun c' s' a1 a2 => by
        have := ih (t + 1) (by omega) (by omega) c' s' (by omega) (by omega)
        rw [show 5 * ((t + 1 : Nat) : Int) - 5 = 5 * (t : Int) by omega] at this
        exact this
      have hb := z_32_ok
      unfold z_32 at hb
      split at hb
      next c ec =>
        split at hb
        next ls el =>
          have hj := s_jump_mem ec
          obtain ⟨k1, k2⟩ := z_run_ok (w := (cells, slots, h)) hP (hE (fun _ => 0)) z_tab_ok 100 (c, z_L0, [], []) ls el (fun q hq => z_tab_ok q (hj.2 q hq))
          have key := k2 (fun Y hY => ?_) Ls [] hL' trivial (fun q hq => by cases hq)
          · rw [show s_pc c = 32 from hj.1] at key
            exact key
          · have hbY := List.all_eq_true.mp hb Y hY
            obtain ⟨c9, L, st, F⟩ := Y
            cases c9 with
            | nil => cases hbY
            | cons r t9 =>
              unfold z_sw at hbY
              simp only [Bool.and_eq_true, Nat.beq_eq, decide_eq_true_eq, List.isEmpty_iff] at hbY
              obtain ⟨g1, rfl, rfl, rfl⟩ := hbY
              intro Ls2 sts hL2 hS hF
              obtain ⟨x, ys, rfl, ⟨m, rfl⟩, hS2⟩ := z_gS_c hS
              cases ys with
              | cons _ _ => exact hS2.elim
              | nil =>
                show P (r.1, Ls2, [.int m], cells, slots, h)
                rw [g1]
                by_cases hr : 0 ≤ m.toInt ∧ m.toInt ≤ 49
                · obtain ⟨k, hk⟩ := Int.eq_ofNat_of_zero_le hr.1
                  have hlt : k < z_offs.length := by
                    show k < 50
                    omega
                  have ho : z_offs[k]? = some z_offs[k] := List.getElem?_eq_getElem hlt
                  have hpos : ∀ o ∈ z_offs, (0 : Int) ≤ o := by decide
                  have hp := hpos _ (List.getElem_mem hlt)
                  refine hP.1 _ ⟨_, _, d39, Or.inr (Or.inr (Or.inl (Or.inr (Or.inr (Or.inr (Or.inr (Or.inr ⟨1825, 0, 49, z_offs.toArray, m, [], z_offs[k], (39 + z_offs[k]).toNat, rfl, rfl, ?_, Or.inl ⟨by omega, by omega, ?_⟩, ?_⟩)))))))⟩
                  · show (39 : Int) + z_offs[k] = _
                    omega
                  · rw [List.getElem?_toArray, show (m.toInt - 0).toNat = k by omega]
                    exact ho
                  · exact hcase k _ ho _ hE cells slots (by omega) (by omega) hnx Ls2 hL2 h hI
                · refine hP.1 _ ⟨_, _, d39, Or.inr (Or.inr (Or.inl (Or.inr (Or.inr (Or.inr (Or.inr (Or.inr ⟨1825, 0, 49, z_offs.toArray, m, [], 1825, 1864, rfl, rfl, rfl, Or.inr ⟨by omega, rfl⟩, ?_⟩)))))))⟩
                  exact z_default hP (hE _) (hnx cells slots (by omega) (by omega)) hL2 hI
        next => cases hb
      next => cases hb
end Z4
end
section
-- the reference's calls keep what holds between calls (made by wip/p24/law/gen99.py)
set_option maxRecDepth 20000
theorem iv_rtI {j : Nat} {Q : s_MI} {r : Option Value} (hq : s_mi[j]? = some Q) (hk : Q.2.1 = 1 ∨ Q.2.1 = 2) (h : iv_rt (g_rt j) r) : ∃ v, r = some (.int v) := by
  obtain ⟨-, -, h3, -, -⟩ := s_mi_ok j Q hq
  rcases hk with hk | hk <;> rw [hk] at h3
  · have h3 : g_rt j = some .int := h3
    rw [h3] at h
    exact h
  · have h3 : g_rt j = some .boolean := h3
    rw [h3] at h
    obtain ⟨v, e, -⟩ := h
    exact ⟨v, e⟩
theorem iv_i {A : Nat → Nat} (m : Int32) : xa_g A (0, 0, -2147483648, 2147483647, m.toInt) (.int m) := by
  have h1 := Int32.le_toInt m
  have h2 := Int32.toInt_lt m
  exact ⟨m, rfl, rfl, h1, by omega⟩
theorem iv_sp0 {as : List Value} (h : iv_sp [] as) : as = [] := by
  cases as with
  | nil => rfl
  | cons _ _ => exact h.elim
theorem iv_spc {k : Nat} {ks : List Nat} {as : List Value} (h : iv_sp (k :: ks) as) : ∃ (m : Int32) (ys : List Value), as = .int m :: ys ∧ (k = 1 → m.toInt = 0 ∨ m.toInt = 1) ∧ iv_sp ks ys := by
  cases as with
  | nil => exact h.elim
  | cons x ys =>
    obtain ⟨⟨m, rfl, h1⟩, h2⟩ := h
    exact ⟨m, ys, rfl, h1, h2⟩
end
section
-- the class's calls keep what holds between calls (made by wip/p24/law/gen99d.py)
set_option maxRecDepth 20000
def iv_vs (k : Nat) : y_V := bif Nat.beq k 1 then (0, 0, 1, 0, 0, 0, 0) else (0, -2147483648, 2147483647, 0, 0, 0, 0)
theorem iv_vs_g {W : y_W} {β : Nat → Int} : ∀ {spec : List Nat} {as : List Value}, iv_sp spec as → y_gA W β (spec.map iv_vs) as
  | [], as, h => by
    rw [iv_sp0 h]
    exact trivial
  | k :: ks, as, h => by
    obtain ⟨m, ys, rfl, h1, h2⟩ := iv_spc h
    refine ⟨?_, iv_vs_g h2⟩
    have b1 := Int32.le_toInt m
    have b2 := Int32.toInt_lt m
    unfold iv_vs
    cases e : Nat.beq k 1
    · exact ⟨m, rfl, b1, by show m.toInt ≤ 2147483647; omega, fun h => absurd rfl h, fun h => absurd rfl h⟩
    · rw [Nat.beq_eq] at e
      have := h1 e
      exact ⟨m, rfl, by show (0 : Int) ≤ m.toInt; omega, by show m.toInt ≤ 1; omega, fun h => absurd rfl h, fun h => absurd rfl h⟩
theorem iv_sh_ok {A : Nat → Nat} {h : g_H} (hI : iv_inv A h) : iv_sh A h := by
  obtain ⟨⟨W, β, hH, hW⟩, -⟩ := hI
  refine ⟨?_, ?_, ?_⟩
  · obtain ⟨ro, f, h1, h2, -⟩ := hH.2.1 0 (A 0) 0 (hW 0 0 rfl)
    cases h1
    exact ⟨_, _, h2⟩
  · obtain ⟨ro, f, h1, h2, -⟩ := hH.2.1 60 (A 60) 12 (hW 60 12 rfl)
    cases h1
    exact ⟨_, _, h2⟩
  · obtain ⟨ro, f, h1, h2, -⟩ := hH.2.1 106 (A 106) 101 (hW 106 101 rfl)
    cases h1
    exact ⟨_, h2⟩
end
section
-- shop: both answer the same
set_option maxRecDepth 20000
-- a method of the class, by hand
theorem iv_ireturn {cc : ByteArray} {o pc len kd a k : Nat} {v : Int} {ins : Instr} (hI : s_okI cc o (pc, len, 40, kd, a, k, v, ins) = true) : decode cc pc = .ok (.ireturn, 1) := by
  obtain ⟨⟨n, hd, hlen, hne⟩, hQ, -⟩ := s_okI_eq hI (by decide)
  have hi : ins = .ireturn := of_decide_eq_true hQ
  subst hi
  have := hne (by decide)
  rw [this] at hd
  exact hd
theorem iv_in {full c t : List s_I} {pc : Nat} {r : s_I} (e : s_jump full pc = some (r :: t)) : r ∈ full := s_jump_in e r List.mem_cons_self
theorem iv_gL {W : y_W} {β : Nat → Int} {Ls : g_L} {i : Nat} {x : Value} {v : y_V} (hi : i < 200000) (hm : (i, x) ∈ Ls) (hg : y_g W β v x) : ∃ x, y_at β Ls i x ∧ y_g W β v x := ⟨x, ⟨fun _ => hm, fun h => by omega⟩, hg⟩
end
