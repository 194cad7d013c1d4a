-- loops and methods of the machine over bounds
/-- of a method: locals, answer (0 none, 1 int, 2 boolean, 3 long, 4 Build), is it <init>, cells, slots, its class -/
abbrev s_MI : Type := Nat × Nat × Bool × Nat × Nat × Nat
abbrev s_Call : Type := Nat → List s_V → s_M → Option (List (Option s_V × s_M))
def s_cok (bc bs cn sn : Nat) (q : s_MI) (r : s_I) (t : List s_I) (L : s_L) (rest : List s_V) (M : s_M) : Bool :=
  Nat.ble (s_sum rest) 8 && (Nat.ble (cn + q.2.2.2.1) bc && (Nat.ble (sn + q.2.2.2.2.1) bs && (s_go r t && (s_wL M.1.length M.2.2.2.length L && rest.all (s_wV M.1.length M.2.2.2.length)))))
def s_q34 (mi : List s_MI) (bc bs : Nat) (r : s_I) (t : List s_I) (L : s_L) (st : List s_V) (cn sn : Nat) (M : s_M) (kd a b : Nat) : Option (Nat × List s_V × List s_V × Nat × Nat) :=
  match s_tkn b st [] with
  | some (as, u :: rest) => match s_cell M u, mi[a]? with
    | some c, some q => bif (Nat.beq kd 2 || Nat.beq kd 3) && (!c.1 && (Nat.beq c.2.1 q.2.2.2.2.2 && s_cok bc bs cn sn q r t L rest M)) then some (a, u :: as, rest, q.2.2.2.1, q.2.2.2.2.1) else none
    | _, _ => none
  | _ => none
def s_q35 (mi : List s_MI) (bc bs : Nat) (r : s_I) (t : List s_I) (L : s_L) (st : List s_V) (cn sn : Nat) (M : s_M) (kd a b : Nat) : Option (Nat × List s_V × List s_V × Nat × Nat) :=
  match s_tkn b st [] with
  | some (as, rest) => match mi[a]? with
    | some q => bif (Nat.beq kd 4 || Nat.beq kd 5) && s_cok bc bs cn sn q r t L rest M then some (a, as, rest, q.2.2.2.1, q.2.2.2.2.1) else none
    | _ => none
  | _ => none
def s_q36 (mi : List s_MI) (bc bs : Nat) (r : s_I) (t : List s_I) (L : s_L) (st : List s_V) (cn sn : Nat) (M : s_M) (kd a b : Nat) : Option (Nat × List s_V × List s_V × Nat × Nat) :=
  match s_tkn b st [] with
  | some (as, u :: rest) => match s_cell M u, mi[a]? with
    | some _, some q => bif (Nat.beq kd 6 || Nat.beq kd 7) && s_cok bc bs cn sn q r t L rest M then some (a, u :: as, rest, q.2.2.2.1, q.2.2.2.2.1) else none
    | _, _ => none
  | _ => none
def s_doE (mi : List s_MI) (bc bs : Nat) (r : s_I) (t : List s_I) (L : s_L) (st : List s_V) (cn sn : Nat) (M : s_M) : Option (Nat × List s_V × List s_V × Nat × Nat) :=
  match r with
  | (_, _, q, kd, a, b, _, _) => bif Nat.beq q 34 then s_q34 mi bc bs r t L st cn sn M kd a b else bif Nat.beq q 35 then s_q35 mi bc bs r t L st cn sn M kd a b else s_q36 mi bc bs r t L st cn sn M kd a b
def s_all {β γ : Type} (f : β → Option (List γ)) : List β → Option (List γ)
  | [] => some []
  | o :: os => match f o with
    | none => none
    | some a => match s_all f os with
      | none => none
      | some b => some (a ++ b)
def s_eset {α : Type} : s_E → Nat → Int × Int → (s_E → α) → α
  | [], _, _, k => k []
  | _ :: t, 0, c, k => k (c :: t)
  | u :: t, n + 1, c, k => s_eset t n c (fun t' => k (u :: t'))
theorem s_eset_eq {α : Type} : ∀ (l : s_E) (n : Nat) (c : Int × Int) (k : s_E → α), s_eset l n c k = k (l.set n c)
  | [], _, _, _ => rfl
  | _ :: _, 0, _, _ => rfl
  | u :: t, n + 1, c, k => by simp only [s_eset, s_eset_eq t n c, List.set_cons_succ]
def s_min (a b : Int) : Int := bif decide (a ≤ b) then a else b
def s_max (a b : Int) : Int := bif decide (a ≤ b) then b else a
theorem s_min_le {a b x : Int} (h1 : x ≤ a) (h2 : x ≤ b) : x ≤ s_min a b := by
  unfold s_min
  cases decide (a ≤ b)
  · exact h2
  · exact h1
theorem s_max_le {a b x : Int} (h1 : a ≤ x) (h2 : b ≤ x) : s_max a b ≤ x := by
  unfold s_max
  cases decide (a ≤ b)
  · exact h1
  · exact h2
def s_cut (M : s_M) (q : Nat × Nat × Int) : Option (s_M × s_M) := match q with
  | (0, k, m) => match M with
    | (E, R, B, H) => match E[k]? with
      | some (lo, hi) => s_fi (m - 1) (fun m1 => s_fi m (fun m => s_eset E k (lo, m1) (fun E1 => s_eset E k (m, hi) (fun E2 => some ((E1, R, B, H), (E2, R, B, H))))))
      | none => none
  | (_, i, j) => match M with
    | (E, R, B, H) => s_fn j.toNat (fun j => match E[i]?, E[j]? with
      | some (a, b), some (c, d) => s_fi (s_min b (d - 1)) (fun b1 => s_fi (s_max c (a + 1)) (fun c1 => s_fi (s_min d b) (fun d2 => s_fi (s_max a c) (fun a2 =>
          s_eset E i (a, b1) (fun E1 => s_eset E1 j (c1, d) (fun E1 => s_eset E j (c, d2) (fun E2 => s_eset E2 i (a2, b) (fun E2 => some ((E1, (i, j, 1) :: R, B, H), (E2, (j, i, 0) :: R, B, H))))))))))
      | _, _ => none)
def s_two {γ : Type} (f : s_M → Option (List γ)) (M : s_M × s_M) : Option (List γ) := match f M.1 with
  | none => none
  | some a => match f M.2 with
    | none => none
    | some b => some (a ++ b)
def s_res {γ : Type} (f : s_X → Option (List γ)) (x : Option s_O) (g : s_M → s_X) (M : s_M) : Option (List γ) := match x with
  | none => none
  | some (.inr X) => f X
  | some (.inl c) => match s_cut M c with
    | none => none
    | some MM => s_two (fun M => f (g M)) MM
def s_cal {γ : Type} (f : s_X → Option (List γ)) (CALL : s_Call) (x : Option (Nat × List s_V × List s_V × Nat × Nat)) (t : List s_I) (L : s_L) (cn sn : Nat) (M : s_M) : Option (List γ) := match x with
  | none => none
  | some (j, as, rest, mc, ms) => match CALL j as M with
    | none => none
    | some outs => s_all (fun out => s_fn (cn + mc) (fun cn => s_fn (sn + ms) (fun sn => f (t, L, out.1.toList ++ rest, cn, sn, out.2)))) outs
def s_loop (CALL : s_Call) (full : List s_I) (ft : s_FT) (mi : List s_MI) (scr : Nat) (o nL : Nat) (ini : Bool) (bc bs : Nat) : Nat → s_X → Option (List s_X)
  | 0, _ => none
  | n + 1, (code, L, st, cn, sn, M) => match code with
    | [] => none
    | r :: t => bif Nat.ble 40 r.2.2.1 then some [(r :: t, L, st, cn, sn, M)] else
      bif Nat.ble 34 r.2.2.1 && Nat.blt r.2.2.1 37 then s_cal (s_loop CALL full ft mi scr o nL ini bc bs n) CALL (s_doE mi bc bs r t L st cn sn M) t L cn sn M
      else s_res (s_loop CALL full ft mi scr o nL ini bc bs n) (s_do full ft scr o nL ini bc bs r t L st cn sn M) (fun M => (r :: t, L, st, cn, sn, M)) M
def s_args : Nat → List s_V → s_L
  | _, [] => []
  | i, v :: vs => (i, v) :: s_args (bif s_c2 v then i + 2 else i + 1) vs
def s_rti (rt : Nat) (v : s_V) (M : s_M) : Option (Option s_V × s_M) := match rt with
  | 1 => bif s_tk 0 v then some (some v, M) else none
  | 2 => match s_iv M.1 v with
    | some iv => bif decide (0 ≤ iv.1) && decide (iv.2 ≤ 1) then some (some v, M) else none
    | none => none
  | _ => none
def s_retX (rt bc bs : Nat) (X : s_X) : Option (Option s_V × s_M) := match X with
  | (r :: _, _, st, cn, sn, M) => bif Nat.ble cn bc && Nat.ble sn bs then
      match st with
      | [] => bif Nat.beq r.2.2.1 43 && Nat.beq rt 0 then some (none, M) else none
      | [v] => bif Nat.beq r.2.2.1 40 then s_rti rt v M
        else bif Nat.beq r.2.2.1 41 && (Nat.beq rt 3 && s_tk 1 v) then some (some v, M)
        else bif Nat.beq r.2.2.1 42 && (Nat.beq rt 4 && s_tk 4 v) then some (some v, M) else none
      | _ => none
    else none
  | _ => none
def s_rets (rt bc bs : Nat) : List s_X → Option (List (Option s_V × s_M))
  | [] => some []
  | X :: Xs => match s_retX rt bc bs X with
    | none => none
    | some q => match s_rets rt bc bs Xs with
      | none => none
      | some qs => some (q :: qs)
def s_body (codes : List (List s_I)) (ft : s_FT) (mi : List s_MI) (F : Nat) (K : s_Call) : s_Call := fun j as M => match mi[j]? with
    | none => none
    | some q => bif Nat.ble (s_sum as) q.1 then
        match s_loop K (codes.getD j []) ft mi 0 q.2.2.2.2.2 q.1 q.2.2.1 q.2.2.2.1 q.2.2.2.2.1 F (codes.getD j [], s_args 0 as, [], 0, 0, M) with
        | none => none
        | some Xs => s_rets q.2.1 q.2.2.2.1 q.2.2.2.2.1 Xs
      else none
/-- ov: answers that are known of methods that touch no cell -/
def s_run (codes : List (List s_I)) (ft : s_FT) (mi : List s_MI) (F : Nat) (ov : Nat → List s_V → Option s_V) : Nat → s_Call
  | 0 => fun _ _ _ => none
  | d + 1 => fun j as M => match ov j as with
    | some v => some [(some v, M)]
    | none => s_body codes ft mi F (s_run codes ft mi F ov d) j as M
