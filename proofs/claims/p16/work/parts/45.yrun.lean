-- loops and calls of the machine over kinds and bounds
/-- a loop: its head, does it go up, its first name, its names (local and name), what holds at the head -/
abbrev y_A : Type := Nat × Bool × Nat × List (Nat × Nat) × y_L
/-- answer, arguments, names -/
abbrev y_O : Type := Option y_V × List y_V × y_L
abbrev y_Call : Type := Nat → List y_V → y_L → Option (List y_O)
def y_fa (pc : Nat) : List y_A → Option y_A
  | [] => none
  | a :: t => bif Nat.beq a.1 pc then some a else y_fa pc t
/-- a loop, written down: as above, with the locals that it changes, does it write fields or call, and what holds of those locals -/
abbrev y_B : Type := Nat × Bool × Nat × List (Nat × Nat) × List Nat × Bool × y_L
def y_fB (pc : Nat) : List y_B → Option y_B
  | [] => none
  | a :: t => bif Nat.beq a.1 pc then some a else y_fB pc t
def y_isn (i : Nat) : List Nat → Bool
  | [] => false
  | j :: t => bif Nat.beq j i then true else y_isn i t
/-- what else is known at the head -/
def y_keep {α : Type} (ms : List Nat) (eff : Bool) : y_L → (y_L → α) → α
  | [], k => k []
  | (j, v) :: t, k => bif y_isn j ms || (eff && Nat.ble 300000 j) then y_keep ms eff t k else y_keep ms eff t (fun t => k ((j, v) :: t))
def y_mkA (b : y_B) (K : y_L) : y_A := (b.1, b.2.1, b.2.2.1, b.2.2.2.1, b.2.2.2.2.2.2 ++ K)
/-- the local that a name of the loop stands for -/
def y_mk : List (Nat × Nat) → Nat → Option Nat
  | [], _ => none
  | (l, i) :: t, k => bif Nat.beq i k then some l else y_mk t k
/-- v is u and c -/
def y_deq (v u : y_V) (c : Int) : Bool := (!Nat.beq v.2.2.2.1 0 && (Nat.beq v.2.2.2.1 u.2.2.2.1 && decide (v.2.2.2.2.1 = u.2.2.2.2.1 + c))) || (decide (v.2.1 = v.2.2.1) && (decide (u.2.1 = u.2.2.1) && decide (v.2.1 = u.2.1 + c)))
/-- v is at most u and c -/
def y_dle (v u : y_V) (c : Int) : Bool := (!Nat.beq v.2.2.2.1 0 && (Nat.beq v.2.2.2.1 u.2.2.2.1 && decide (v.2.2.2.2.1 ≤ u.2.2.2.2.1 + c))) || ((!Nat.beq v.2.2.2.2.2.1 0 && (Nat.beq v.2.2.2.2.2.1 u.2.2.2.1 && decide (v.2.2.2.2.2.2 ≤ u.2.2.2.2.1 + c))) || decide (v.2.2.1 ≤ u.2.1 + c))
def y_fe (ms : List (Nat × Nat)) (L : y_L) (key : Nat) (v : y_V) (k : Nat) (c : Int) : Bool := bif Nat.beq k 0 then true else match y_mk ms k with
  | some l => (Nat.beq l key && decide (c = 0)) || (match y_find L l with
    | some u => y_deq v u c
    | none => false)
  | none => Nat.beq v.2.2.2.1 k && decide (v.2.2.2.2.1 = c)
def y_fu (ms : List (Nat × Nat)) (L : y_L) (key : Nat) (v : y_V) (k : Nat) (c : Int) : Bool := bif Nat.beq k 0 then true else match y_mk ms k with
  | some l => (Nat.beq l key && decide (0 ≤ c)) || (match y_find L l with
    | some u => y_dle v u c
    | none => false)
  | none => (Nat.beq v.2.2.2.2.2.1 k && decide (v.2.2.2.2.2.2 ≤ c)) || (Nat.beq v.2.2.2.1 k && decide (v.2.2.2.2.1 ≤ c))
/-- a state fits what holds at a head -/
def y_fit1 (ms : List (Nat × Nat)) (L : y_L) (q : Nat × y_V) : Bool := match y_find L q.1 with
  | some v => bif Nat.blt q.2.1 2 then Nat.beq v.1 q.2.1 && (decide (q.2.2.1 ≤ v.2.1) && (decide (v.2.2.1 ≤ q.2.2.2.1) && (y_fe ms L q.1 v q.2.2.2.2.1 q.2.2.2.2.2.1 && y_fu ms L q.1 v q.2.2.2.2.2.2.1 q.2.2.2.2.2.2.2)))
    else y_le v q.2
  | none => false
def y_isI0 (L : y_L) (m : Nat × Nat) : Bool := match y_find L m.1 with
  | some v => Nat.blt v.1 2
  | none => false
def y_fit (ms : List (Nat × Nat)) (inv L : y_L) : Bool := ms.all (y_isI0 L) && inv.all (y_fit1 ms L)
/-- the counter of the loop: what holds tells its bounds by the loop's first name -/
def y_ctr (a : y_A) : Option (Nat × y_V) := match a with
  | (_, _, i, (l, i') :: _, inv) => match y_find inv l with
    | some v => bif Nat.beq i i' && (Nat.blt v.1 2 && (Nat.beq v.2.2.2.1 i && decide (v.2.2.2.2.1 = 0))) then some (l, v) else none
    | none => none
  | _ => none
def y_back (a : y_A) (L : y_L) : Bool := y_fit a.2.2.2.1 a.2.2.2.2 L && (match y_ctr a with
  | some (l, _) => match y_find L l with
    | some v => Nat.blt v.1 2 && (Nat.beq v.2.2.2.1 a.2.2.1 && (bif a.2.1 then decide (1 ≤ v.2.2.2.2.1) else decide (v.2.2.2.2.1 ≤ -1)))
    | none => false
  | none => false)
def y_ent (a : y_A) (G : List y_A) (L : y_L) : Bool := y_fit a.2.2.2.1 a.2.2.2.2 L && ((match y_ctr a with
  | some _ => true
  | none => false) && (Nat.blt 0 a.2.2.1 && (a.2.2.2.1.all (fun m => Nat.ble a.2.2.1 m.2 && Nat.blt m.2 100000) && G.all (fun g => Nat.blt g.2.2.1 a.2.2.1))))
-- calls
def y_glq (r : y_Q) : y_Q := (bif Nat.ble 200000 r.1 then r.1 else 0, r.2.1, bif Nat.ble 200000 r.2.2.1 then r.2.2.1 else 0, r.2.2.2)
def y_loq (r : y_Q) : y_Q := (bif Nat.ble 300000 r.1 then 0 else r.1, r.2.1, bif Nat.ble 300000 r.2.2.1 then 0 else r.2.2.1, r.2.2.2)
def y_mq (f : y_Q → y_Q) (v : y_V) : y_V := bif Nat.blt v.1 2 then (v.1, v.2.1, v.2.2.1, f v.2.2.2) else v
def y_mV {α : Type} (f : y_Q → y_Q) : List y_V → (List y_V → α) → α
  | [], k => k []
  | v :: t, k => y_fv (y_mq f v) (fun v => y_mV f t (fun t => k (v :: t)))
/-- the names known, by others alone -/
def y_nms {α : Type} : y_L → (y_L → α) → α
  | [], k => k []
  | (j, v) :: t, k => bif Nat.ble 200000 j then y_fv (y_mq y_glq v) (fun v => y_nms t (fun t => k ((j, v) :: t))) else y_nms t k
-- a called method knows the names' numbers at its beginning by names of their own (150000 less)
def y_glm (r : y_Q) : y_Q := (bif Nat.ble 150000 r.1 then r.1 else 0, r.2.1, bif Nat.ble 150000 r.2.2.1 then r.2.2.1 else 0, r.2.2.2)
/-- the names known at an end -/
def y_nmo {α : Type} : y_L → (y_L → α) → α
  | [], k => k []
  | (j, v) :: t, k => bif Nat.ble 200000 j then y_fv (y_mq y_glm v) (fun v => y_nmo t (fun t => k ((j, v) :: t))) else y_nmo t k
def y_en1 (j : Nat) (v : y_V) : y_V := bif Nat.beq v.1 0 && (Nat.ble 300000 j && Nat.blt j 350000) then (0, v.2.1, v.2.2.1, j - 150000, 0, v.2.2.2.2.2) else v
def y_en {α : Type} : y_L → (y_L → α) → α
  | [], k => k []
  | (j, v) :: t, k => y_fv (y_en1 j v) (fun v => y_en t (fun t => k ((j, v) :: t)))
/-- the same number by the caller's names -/
def y_tre (L : y_L) (k : Nat) (c : Int) : Nat × Int := bif Nat.ble 200000 k then (k, c) else bif Nat.ble 150000 k then (match y_find L (k + 150000) with
    | some u => bif Nat.beq u.1 0 && Nat.blt u.2.2.2.1 300000 then (u.2.2.2.1, u.2.2.2.2.1 + c) else (0, 0)
    | none => (0, 0)) else (0, 0)
def y_tru (L : y_L) (k : Nat) (c : Int) : Nat × Int := bif Nat.ble 200000 k then (k, c) else bif Nat.ble 150000 k then (match y_find L (k + 150000) with
    | some u => bif Nat.beq u.1 0 then (bif !Nat.beq u.2.2.2.2.2.1 0 && Nat.blt u.2.2.2.2.2.1 300000 then (u.2.2.2.2.2.1, u.2.2.2.2.2.2 + c) else bif Nat.blt u.2.2.2.1 300000 then (u.2.2.2.1, u.2.2.2.2.1 + c) else (0, 0)) else (0, 0)
    | none => (0, 0)) else (0, 0)
def y_tr1 (L : y_L) (v : y_V) : y_V := match y_tre L v.2.2.2.1 v.2.2.2.2.1, (bif Nat.beq v.2.2.2.2.2.1 0 then y_tru L v.2.2.2.1 v.2.2.2.2.1 else y_tru L v.2.2.2.2.2.1 v.2.2.2.2.2.2) with
  | (k, c), (k2, c2) => (0, v.2.1, v.2.2.1, k, c, k2, c2)
def y_tr {α : Type} (L : y_L) : y_L → (y_L → α) → α
  | [], k => k []
  | (j, v) :: t, k => bif Nat.ble 200000 j && Nat.beq v.1 0 then y_fv (y_tr1 L v) (fun v => y_tr L t (fun t => k ((j, v) :: t))) else y_tr L t k
/-- the names told to a called method, with all that is known of their bounds -/
def y_nmr {α : Type} (L : y_L) : y_L → (y_L → α) → α
  | [], k => k []
  | (j, v) :: t, k => bif Nat.ble 200000 j then y_fv (y_mq y_glq (y_red L v)) (fun v => y_nmr L t (fun t => k ((j, v) :: t))) else y_nmr L t k
/-- behind a call: names from 300000 on may stand for others -/
def y_aft {α : Type} : y_L → (y_L → α) → α
  | [], k => k []
  | (j, v) :: t, k => bif Nat.ble 200000 j then y_aft t k else y_fv (y_mq y_loq v) (fun v => y_aft t (fun t => k ((j, v) :: t)))
def y_afS {α : Type} : List y_T → (List y_T → α) → α
  | [], k => k []
  | (v, j) :: t, k => y_fv (y_mq y_loq v) (fun v => y_afS t (fun t => k ((v, bif Nat.ble 300001 j then 0 else j) :: t)))
def y_ref1 (t : y_T) (o : y_V) : y_V := match y_pick (y_loq t.1.2.2.2).2.2 (y_loq o.2.2.2).2.2 with
  | (k, c) => (o.1, o.2.1, o.2.2.1, (y_loq t.1.2.2.2).1, (y_loq t.1.2.2.2).2.1, k, c)
/-- what the call tells of its arguments -/
def y_ref {α : Type} : List y_T → List y_V → y_L → (y_L → α) → α
  | t :: ts, o :: os, L, k => bif Nat.blt 0 t.2 && (Nat.ble t.2 300000 && (Nat.blt o.1 2 && Nat.beq o.1 t.1.1)) then y_fv (y_ref1 t o) (fun v => y_upd (t.2 - 1) v L (fun L => y_ref ts os L k)) else y_ref ts os L k
  | _, _, L, k => k L
def y_tkn : Nat → List y_T → List y_T → Option (List y_T × List y_T)
  | 0, st, acc => some (acc, st)
  | n + 1, v :: st, acc => y_tkn n st (v :: acc)
  | _ + 1, [], _ => none
def y_sum : List y_T → Nat
  | [] => 0
  | t :: ts => (bif y_c2 t.1 then 2 else 1) + y_sum ts
def y_doE (R : y_R) (mi : List s_MI) (r : s_I) (t : List s_I) (st : List y_T) : Option (Nat × List y_T × List y_T) := match r with
  | (_, _, q, kd, a, b, _, _) => match y_tkn b st [] with
    | some (as, rest) => bif s_go r t then
        bif Nat.beq q 35 then (bif (Nat.beq kd 4 || Nat.beq kd 5) && Nat.ble (y_sum rest) 8 then some (a, as, rest) else none)
        else match rest with
          | u :: rest => match y_ro R u with
            | some ro => match mi[a]? with
              | some Q => bif (Nat.beq kd 2 || Nat.beq kd 3) && (!ro.1 && (Nat.beq ro.2.1 Q.2.2.2.2.2 && Nat.ble (y_sum rest) 8)) then some (a, u :: as, rest) else none
              | none => none
            | none => none
          | [] => none
      else none
    | none => none
def y_vs (as : List y_T) : List y_V := as.map (fun t => t.1)
def y_rst (o : Option y_V) (rest : List y_T) : List y_T := match o with
  | some v => y_fv (y_mq y_glq v) (fun v => (v, 0) :: rest)
  | none => rest
def y_cal {γ : Type} (f : y_X → Option (List γ)) (K : y_Call) (x : Option (Nat × List y_T × List y_T)) (t : List s_I) (L : y_L) : Option (List γ) := match x with
  | none => none
  | some (j, as, rest) => y_mV y_glq (y_vs as) (fun vs => y_nmr L L (fun N => match K j vs N with
    | none => none
    | some outs => y_aft L (fun L1 => y_afS rest (fun rest => s_all (fun o => y_mV y_glq o.2.1 (fun us => y_tr L o.2.2 (fun N => y_ref as us (N ++ L1) (fun L2 => f (t, L2, y_rst o.1 rest))))) outs))))
def y_fin {γ : Type} (f : y_X → Option (List γ)) (x : Option (List y_X)) : Option (List γ) := match x with
  | none => none
  | some Xs => s_all f Xs
def y_run (R : y_R) (ft : s_FT) (mi : List s_MI) (K : y_Call) (An : List y_B) (full : List s_I) (nL : Nat) : Nat → List y_A → y_X → Option (List y_X)
  | 0, _, _ => none
  | n + 1, G, (code, L, st) => match code with
    | [] => none
    | r :: t => match y_fa r.1 G with
      | some a => match st with
        | [] => bif y_back a L then some [] else none
        | _ => none
      | none => match y_fB r.1 An with
        | some b => match st with
          | [] => y_keep b.2.2.2.2.1 b.2.2.2.2.2.1 L (fun V => bif y_ent (y_mkA b V) G L && Nat.blt r.2.2.1 34 then y_fin (y_run R ft mi K An full nL n (y_mkA b V :: G)) (y_do R ft full nL r t (y_mkA b V).2.2.2.2 []) else none)
          | _ => none
        | none => bif Nat.ble 40 r.2.2.1 then some [(r :: t, L, st)]
          else bif Nat.beq r.2.2.1 34 || Nat.beq r.2.2.1 35 then y_cal (y_run R ft mi K An full nL n G) K (y_doE R mi r t st) t L
          else y_fin (y_run R ft mi K An full nL n G) (y_do R ft full nL r t L st)
-- methods
def y_ret (rt : Nat) (X : y_X) : Option (Option y_V) := match X with
  | (r :: _, _, st) => match st with
    | [] => bif Nat.beq r.2.2.1 43 && Nat.beq rt 0 then some none else none
    | [v] => bif Nat.beq r.2.2.1 40 && Nat.beq v.1.1 0 then (bif Nat.beq rt 1 then some (some v.1) else bif Nat.beq rt 2 && (decide (0 ≤ v.1.2.1) && decide (v.1.2.2.1 ≤ 1)) then some (some v.1) else none)
      else bif Nat.beq r.2.2.1 41 && (Nat.beq rt 3 && Nat.beq v.1.1 1) then some (some v.1)
      else bif Nat.beq r.2.2.1 42 && (Nat.beq rt 4 && (Nat.ble 2 v.1.1 && Nat.ble v.1.1 4)) then some (some v.1) else none
    | _ => none
  | _ => none
/-- the arguments in the locals; each that tells of no name gets its own -/
def y_arg (n : Nat) (v : y_V) : y_V := bif Nat.blt v.1 2 && Nat.beq v.2.2.2.1 0 then (v.1, v.2.1, v.2.2.1, n, 0, v.2.2.2.2.2) else v
def y_args : Nat → Nat → List y_V → y_L
  | _, _, [] => []
  | i, n, v :: vs => (i, y_arg n v) :: y_args (bif y_c2 v then i + 2 else i + 1) (n + 1) vs
/-- what is known of them at the end -/
def y_oarg (L : y_L) (i n : Nat) (v : y_V) : y_V := match y_find L i with
  | some u => bif Nat.beq u.1 v.1 && (Nat.blt u.1 2 && (Nat.beq u.2.2.2.1 n && decide (u.2.2.2.2.1 = 0))) then y_mq y_glq u else y_mq (fun r => y_loq (y_glq r)) v
  | none => y_mq (fun r => y_loq (y_glq r)) v
def y_oargs {α : Type} (L : y_L) : Nat → Nat → List y_V → (List y_V → α) → α
  | _, _, [], k => k []
  | i, n, v :: vs, k => y_fv (y_oarg L i n v) (fun u => y_oargs L (bif y_c2 v then i + 2 else i + 1) (n + 1) vs (fun us => k (u :: us)))
def y_outk (x : Option y_V) (us : List y_V) (N : y_L) : Option y_O := match x with
  | none => some (none, us, N)
  | some v => y_fv (y_mq y_glq v) (fun v => some (some v, us, N))
def y_out (rt : Nat) (as : List y_V) (X : y_X) : Option y_O := match y_ret rt X with
  | none => none
  | some x => y_oargs X.2.1 0 100000 as (fun us => y_nmo X.2.1 (fun N => y_outk x us N))
def y_outs (rt : Nat) (as : List y_V) : List y_X → Option (List y_O)
  | [] => some []
  | X :: Xs => match y_out rt as X with
    | none => none
    | some o => match y_outs rt as Xs with
      | none => none
      | some os => some (o :: os)
def y_leA : List y_V → List y_V → Bool
  | [], [] => true
  | v :: vs, w :: ws => y_le v w && y_leA vs ws
  | _, _ => false
def y_leN (N M : y_L) : Bool := M.all (fun q => match y_find N q.1 with
  | some v => y_le v q.2
  | none => false)
def y_leR (x y : Option y_V) : Bool := match x, y with
  | none, none => true
  | some v, some w => y_le v w
  | _, _ => false
def y_leO (o m : y_O) : Bool := y_leR o.1 m.1 && (y_leA o.2.1 m.2.1 && y_leN o.2.2 m.2.2)
-- of several ends fewer: one that spans all of a kind of answer
def y_hulV (v w : y_V) : y_V := bif y_le v w then w else bif y_le w v then v else (bif Nat.blt v.1 2 && Nat.beq v.1 w.1 then (v.1, s_min v.2.1 w.2.1, s_max v.2.2.1 w.2.2.1, bif y_leq v.2.2.2 w.2.2.2 then w.2.2.2 else bif y_leq w.2.2.2 v.2.2.2 then v.2.2.2 else y_z) else bif Nat.ble 2 v.1 && Nat.ble v.1 4 then (3, bif Nat.beq v.1 4 then w.2 else v.2) else y_no)
def y_hulA {α : Type} : List y_V → List y_V → (List y_V → α) → α
  | v :: vs, w :: ws, k => y_fv (y_hulV v w) (fun u => y_hulA vs ws (fun us => k (u :: us)))
  | _, _, k => k []
def y_hulN {α : Type} (N : y_L) : y_L → (y_L → α) → α
  | [], k => k []
  | (j, v) :: t, k => match y_find N j with
    | some w => y_fv (y_hulV w v) (fun u => y_hulN N t (fun t => k ((j, u) :: t)))
    | none => y_hulN N t k
/-- may two ends be one: answers that are the same number, or no small ones, or none -/
def y_same (x y : Option y_V) : Bool := match x, y with
  | none, none => true
  | some v, some w => bif Nat.beq v.1 0 && (decide (0 ≤ v.2.1) && (decide (v.2.2.1 ≤ 1) && (decide (0 ≤ w.2.1) && decide (w.2.2.1 ≤ 1)))) then decide (v.2.1 = w.2.1) && decide (v.2.2.1 = w.2.2.1) else Nat.beq v.1 w.1 || (Nat.ble 2 v.1 && Nat.ble 2 w.1)
  | _, _ => false
def y_ins (o : y_O) : List y_O → List y_O
  | [] => [o]
  | m :: ms => bif y_same o.1 m.1 then y_hulA o.2.1 m.2.1 (fun us => y_hulN o.2.2 m.2.2 (fun N => match o.1, m.1 with
      | some v, some w => y_fv (y_hulV v w) (fun u => (some u, us, N) :: ms)
      | _, _ => (none, us, N) :: ms)) else m :: y_ins o ms
def y_mrg : List y_O → List y_O → List y_O
  | [], acc => acc
  | o :: os, acc => y_mrg os (y_ins o acc)
def y_cov (os ms : List y_O) : Bool := os.all (fun o => ms.any (fun m => y_leO o m))
def y_mrgd (os : List y_O) : Option (List y_O) := bif y_cov os (y_mrg os []) then some (y_mrg os []) else none
def y_body (R : y_R) (ft : s_FT) (mi : List s_MI) (codes : List (List s_I)) (An : Nat → List y_B) (F : Nat) (K : y_Call) : y_Call := fun j as N => match mi[j]? with
  | none => none
  | some Q => y_mV y_glq as (fun as => y_nms N (fun N => y_en N (fun N => bif Nat.ble (y_sum (as.map (fun v => (v, 0)))) Q.1 && Nat.ble Q.1 1000 then
      match y_run R ft mi K (An j) (codes.getD j []) Q.1 F [] (codes.getD j [], y_args 0 100000 as ++ N, []) with
      | none => none
      | some Xs => match y_outs Q.2.1 as Xs with
        | none => none
        | some os => y_mrgd os
    else none)))
def y_K (R : y_R) (ft : s_FT) (mi : List s_MI) (codes : List (List s_I)) (An : Nat → List y_B) (F : Nat) (hand : Nat → y_Call) : Nat → y_Call
  | 0 => fun _ _ _ => none
  | d + 1 => fun j as N => match hand d j as N with
    | some outs => some outs
    | none => y_body R ft mi codes An F (y_K R ft mi codes An F hand d) j as N
