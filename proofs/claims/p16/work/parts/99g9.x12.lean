-- sheet, what it leaves
set_option maxRecDepth 20000
def sv_c (l m v : Int) : Int := if m ≤ v then (if m ≤ l then l else m) else (if v ≤ l then l else v)
theorem sv_cr {l m v q r : Int} (hq : q ≤ m ∧ q ≤ v ∧ (q = m ∨ q = v)) (hr : l ≤ r ∧ q ≤ r ∧ (r = l ∨ r = q)) : r = sv_c l m v := by
  unfold sv_c
  split <;> split <;> omega
/-- an entry -/
def sv_k (a v : Int) : Int := if a = 0 then xa_i8 v else if a = 1 then xa_i16 v else v
def sv_f (f st i : Int) : Int := xa_w32 (f + i * st)
theorem sv_f0 {f st : Int} (h1 : -2147483648 ≤ f) (h2 : f ≤ 2147483647) : sv_f f st 0 = f := by
  unfold sv_f
  rw [Int.zero_mul, Int.add_zero]
  exact xa_w32_id h1 h2
theorem sv_fs {f st i : Int} : xa_w32 (sv_f f st i + st) = sv_f f st (i + 1) := by
  unfold sv_f xa_w32
  rw [Int.bmod_add_bmod, Int.add_mul, Int.one_mul, Int.add_assoc]
theorem sv_fm {f st i : Int} : xa_w32 (f + xa_w32 (i * st)) = sv_f f st i := by
  unfold sv_f xa_w32
  exact Int.add_bmod_bmod
def sv_ok (a b : Int) : Prop := (0 ≤ a ∧ a ≤ 3) ∧ b ≤ 14 ∧ (a = 3 ∨ 0 ≤ b)
/-- the teeth that sheet tells of a wheel -/
def sv_T (L H : Int → Int) (a f st i : Int) : Int := if a = 3 then L i else sv_c (L i) (H i) (sv_k a (sv_f f st i))
theorem sv_p3 {L H : Int → Int} {a f st i x : Int} (ha : a = 3) (h : x = L i) : x = sv_T L H a f st i := by
  unfold sv_T
  rw [if_pos ha]
  exact h
theorem sv_pc {L H : Int → Int} {a f st i v kv q r : Int} (ha : ¬ a = 3) (hv : v = sv_f f st i) (hk : kv = sv_k a v) (hq : q ≤ H i ∧ q ≤ kv ∧ (q = H i ∨ q = kv)) (hr : L i ≤ r ∧ q ≤ r ∧ (r = L i ∨ r = q)) : r = sv_T L H a f st i := by
  unfold sv_T
  rw [if_neg ha, ← hv, ← hk]
  exact sv_cr hq hr
/-- what sheet leaves -/
def sv_Q (L H T : Int → Int) (a b f st n : Int) (U : Int → Int) : Prop := (sv_ok a b ∧ (∀ i, 0 ≤ i → i < n → (a = 3 ∨ i < b) → U i = sv_T L H a f st i) ∧ ∀ i, ¬ (0 ≤ i ∧ i < n ∧ (a = 3 ∨ i < b)) → U i = T i) ∨ (¬ sv_ok a b ∧ ∀ i, U i = T i)
theorem sv_one {L H T L' H' T' U U' : Int → Int} {a b f st n : Int} (hn : n ≤ 14) (h : sv_Q L H T a b f st n U) (h' : sv_Q L' H' T' a b f st n U') (e : ∀ i, 0 ≤ i → i < 14 → L i = L' i ∧ H i = H' i ∧ T i = T' i) : ∀ i, 0 ≤ i → i < 14 → U i = U' i := by
  intro i i0 i1
  obtain ⟨e1, e2, e3⟩ := e i i0 i1
  rcases h with ⟨o1, p1, q1⟩ | ⟨o1, p1⟩
  · rcases h' with ⟨-, p2, q2⟩ | ⟨o2, -⟩
    · by_cases c : i < n ∧ (a = 3 ∨ i < b)
      · rw [p1 i i0 c.1 c.2, p2 i i0 c.1 c.2]
        unfold sv_T
        rw [e1, e2]
      · rw [q1 i (fun h => c h.2), q2 i (fun h => c h.2), e3]
    · exact absurd o1 o2
  · rcases h' with ⟨o2, -⟩ | ⟨-, p2⟩
    · exact absurd o2 o1
    · rw [p1, p2, e3]
theorem sv_ts {L H : Int → Int} {M1 : xa_M} {q : Nat} {a f st w x : Int} (hT : ∀ j, 0 ≤ j → j < w → M1 q j = sv_T L H a f st j) (hx : x = sv_T L H a f st w) : ∀ j, 0 ≤ j → j < w + 1 → (xa_up M1 q w x) q j = sv_T L H a f st j := fun j j0 j1 => by
  by_cases e : j = w
  · rw [e, ← hx]
    exact xa_up_eq
  · exact (xa_up_ne (fun h => e h.2)).trans (hT j j0 (by omega))
theorem sv_tn {T : Int → Int} {M1 : xa_M} {q : Nat} {w x : Int} (hw : 0 ≤ w) (hN : ∀ j, ¬ (0 ≤ j ∧ j < w) → M1 q j = T j) : ∀ j, ¬ (0 ≤ j ∧ j < w + 1) → (xa_up M1 q w x) q j = T j := fun j hj => (xa_up_ne (fun h => hj (by omega))).trans (hN j (by omega))
theorem cx_33s {b : Bool} {A : Nat → Nat} {h0 : g_H} {d : Nat} {M : xa_M} {post : Option xa_V → xa_M → Prop} {l1 u1 l2 u2 x1 x2 : Int} (k : ∀ r : Int, r = sv_k x1 x2 → post (some (0, 0, (-2147483648), 2147483647, r)) M) : xa_C (xl_I b) A h0 (d + 1) 33 [(0, 0, l1, u1, x1), (0, 0, l2, u2, x2)] M post := by
  refine xa_C_wk ?_
  refine xa_C_arg [(0, 0, (-2147483648), 2147483647, x1), (0, 0, (-2147483648), 2147483647, x2)] (xa_svI (fun _ _ _ _ => by omega) (xa_svI (fun _ _ _ _ => by omega) xa_sv0)) ?_
  refine xa_meth (Q0 := (2, 1, false, 0, 0, 11)) (by decide +kernel) ⟨rfl, rfl⟩ (full := s_c_33) rfl rfl ?_
  intro hM hv Q hgo
  refine hgo.1 13 [] 0 _ _ _ ?_
  refine And.intro ?_ ?_
  · intro (c1 : ¬ x1 = 0)
    refine And.intro ?_ ?_
    · intro (c2 : ¬ x1 = 1)
      show xa_wk post (some (0, 0, (-2147483648), 2147483647, x2)) M
      exact xa_wkI _ rfl (fun _ _ => by omega) (k _ (by unfold sv_k; rw [if_neg (by omega), if_neg (by omega)]))
    · intro (c2 : x1 = 1)
      show xa_wk post (some (0, 0, (-32768), 32767, xa_i16 x2)) M
      exact xa_wkI _ rfl (fun _ _ => by omega) (k _ (by unfold sv_k; rw [if_neg (by omega), if_pos (by omega)]))
  · intro (c1 : x1 = 0)
    show xa_wk post (some (0, 0, (-128), 127, xa_i8 x2)) M
    exact xa_wkI _ rfl (fun _ _ => by omega) (k _ (by unfold sv_k; rw [if_pos (by omega)]))
theorem cx_35 {b : Bool} {A : Nat → Nat} {h0 : g_H} {d : Nat} {M : xa_M} {post : Option xa_V → xa_M → Prop} {l0 u0 l1 u1 : Int} {x1 x2 : Int} (k1 : (x1 < x2) → post (some (0, 0, (-2147483648), 2147483647, x2)) M) (k2 : (x2 ≤ x1) → post (some (0, 0, (-2147483648), 2147483647, x1)) M) : xa_C (xl_I b) A h0 (d + 1) 35 [(0, 0, l0, u0, x1), (0, 0, l1, u1, x2)] M post := by
  refine xa_C_arg [(0, 0, (-2147483648), 2147483647, x1), (0, 0, (-2147483648), 2147483647, x2)] (xa_svI (fun _ _ _ _ => by omega) (xa_svI (fun _ _ _ _ => by omega) (xa_sv0))) ?_
  refine xa_meth (Q0 := (2, 1, false, 0, 0, 14)) (by decide +kernel) ⟨rfl, rfl⟩ (full := s_c_35) rfl rfl ?_
  intro hM hv Q hgo
  refine hgo.1 10 [] 0 _ _ _ ?_
  refine And.intro ?_ ?_
  · intro (c1 : x1 < x2)
    show post (some (0, 0, (-2147483648), 2147483647, x2)) M
    exact k1 c1
  · intro (c1 : x2 ≤ x1)
    show post (some (0, 0, (-2147483648), 2147483647, x1)) M
    exact k2 c1
theorem cx_34_1 {b : Bool} {A : Nat → Nat} {h0 : g_H} {d : Nat} {M : xa_M} {post : Option xa_V → xa_M → Prop} {l1 u1 l2 u2 : Int} {x1 x2 : Int} (h1 : 0 ≤ x1 ∧ x1 < 14) (k1 : (x2 < (M 3 x1)) → ((M 2 x1) < x2) → post none (xa_up M 4 x1 x2)) (k2 : (x2 < (M 3 x1)) → (x2 ≤ (M 2 x1)) → post none (xa_up M 4 x1 (M 2 x1))) (k3 : ((M 3 x1) ≤ x2) → ((M 2 x1) < (M 3 x1)) → post none (xa_up M 4 x1 (M 3 x1))) (k4 : ((M 3 x1) ≤ x2) → ((M 3 x1) ≤ (M 2 x1)) → post none (xa_up M 4 x1 (M 2 x1))) : xa_C (xl_I b) A h0 (d + 3) 34 [(2, 1, 0, 0, 0), (0, 0, l1, u1, x1), (0, 0, l2, u2, x2)] M post := by
  refine xa_C_arg [(2, 1, 0, 0, 0), (0, 0, (-2147483648), 2147483647, x1), (0, 0, (-2147483648), 2147483647, x2)] (xa_svR (xa_svI (fun _ _ _ _ => by omega) (xa_svI (fun _ _ _ _ => by omega) (xa_sv0)))) ?_
  refine xa_meth (Q0 := (3, 0, false, 0, 0, 1)) (by decide +kernel) ⟨rfl, rfl⟩ (full := s_c_34) rfl rfl ?_
  intro hM hv Q hgo
  refine hgo.1 18 [] 0 _ _ _ ?_
  show xa_C (xl_I b) A h0 _ 22 [(2, 1, 0, 0, 0), (0, 0, (-2147483648), 2147483647, x1)] M _
  refine cx_22_1 (show 0 ≤ x1 ∧ x1 < 14 by omega) ?_
  show xa_C (xl_I b) A h0 _ 25 [(2, 1, 0, 0, 0), (0, 0, (-2147483648), 2147483647, x1)] M _
  refine cx_25_1 (show 0 ≤ x1 ∧ x1 < 14 by omega) ?_
  show xa_C (xl_I b) A h0 _ 32 [(0, 0, 0, 400, M 3 x1), (0, 0, (-2147483648), 2147483647, x2)] M _
  refine cx_32 ?_ ?_
  · intro (i1 : x2 < (M 3 x1))
    show xa_C (xl_I b) A h0 _ 35 [(0, 0, (-2147483648), 2147483647, M 2 x1), (0, 0, (-2147483648), 2147483647, x2)] M _
    refine cx_35 ?_ ?_
    · intro (i2 : (M 2 x1) < x2)
      show xa_C (xl_I b) A h0 _ 18 [(2, 4, 0, 0, 0), (0, 0, (-2147483648), 2147483647, x1), (0, 0, (-2147483648), 2147483647, x2)] M _
      refine cx_18_4 (show 0 ≤ x1 ∧ x1 < 14 by omega) ?_
      show post none (xa_up M 4 x1 x2)
      exact k1 i1 i2
    · intro (i3 : x2 ≤ (M 2 x1))
      show xa_C (xl_I b) A h0 _ 18 [(2, 4, 0, 0, 0), (0, 0, (-2147483648), 2147483647, x1), (0, 0, (-2147483648), 2147483647, M 2 x1)] M _
      refine cx_18_4 (show 0 ≤ x1 ∧ x1 < 14 by omega) ?_
      show post none (xa_up M 4 x1 (M 2 x1))
      exact k2 i1 i3
  · intro (i4 : (M 3 x1) ≤ x2)
    show xa_C (xl_I b) A h0 _ 35 [(0, 0, (-2147483648), 2147483647, M 2 x1), (0, 0, (-2147483648), 2147483647, M 3 x1)] M _
    refine cx_35 ?_ ?_
    · intro (i5 : (M 2 x1) < (M 3 x1))
      show xa_C (xl_I b) A h0 _ 18 [(2, 4, 0, 0, 0), (0, 0, (-2147483648), 2147483647, x1), (0, 0, (-2147483648), 2147483647, M 3 x1)] M _
      refine cx_18_4 (show 0 ≤ x1 ∧ x1 < 14 by omega) ?_
      show post none (xa_up M 4 x1 (M 3 x1))
      exact k3 i4 i5
    · intro (i6 : (M 3 x1) ≤ (M 2 x1))
      show xa_C (xl_I b) A h0 _ 18 [(2, 4, 0, 0, 0), (0, 0, (-2147483648), 2147483647, x1), (0, 0, (-2147483648), 2147483647, M 2 x1)] M _
      refine cx_18_4 (show 0 ≤ x1 ∧ x1 < 14 by omega) ?_
      show post none (xa_up M 4 x1 (M 2 x1))
      exact k4 i4 i6
theorem cx_34s {b : Bool} {A : Nat → Nat} {h0 : g_H} {d : Nat} {M : xa_M} {post : Option xa_V → xa_M → Prop} {l1 u1 l2 u2 x1 x2 : Int} (h : 0 ≤ x1 ∧ x1 < 14) (k : post none (xa_up M 4 x1 (sv_c (M 2 x1) (M 3 x1) x2))) : xa_C (xl_I b) A h0 (d + 3) 34 [(2, 1, 0, 0, 0), (0, 0, l1, u1, x1), (0, 0, l2, u2, x2)] M post := cx_34_1 h (fun (_ : x2 < (M 3 x1)) (_ : (M 2 x1) < x2) => by rw [show x2 = sv_c (M 2 x1) (M 3 x1) x2 by unfold sv_c; split <;> first | omega | (split <;> omega)]; exact k) (fun (_ : x2 < (M 3 x1)) (_ : x2 ≤ (M 2 x1)) => by rw [show (M 2 x1) = sv_c (M 2 x1) (M 3 x1) x2 by unfold sv_c; split <;> first | omega | (split <;> omega)]; exact k) (fun (_ : (M 3 x1) ≤ x2) (_ : (M 2 x1) < (M 3 x1)) => by rw [show (M 3 x1) = sv_c (M 2 x1) (M 3 x1) x2 by unfold sv_c; split <;> first | omega | (split <;> omega)]; exact k) (fun (_ : (M 3 x1) ≤ x2) (_ : (M 3 x1) ≤ (M 2 x1)) => by rw [show (M 2 x1) = sv_c (M 2 x1) (M 3 x1) x2 by unfold sv_c; split <;> first | omega | (split <;> omega)]; exact k)
theorem cx_31s {b : Bool} {A : Nat → Nat} {h0 : g_H} {d : Nat} {M : xa_M} {post : Option xa_V → xa_M → Prop} (hn : 0 ≤ M 1 9 ∧ M 1 9 ≤ 14) (k : ∀ M1 : xa_M, (∀ (q : Nat) (j : Int), ¬ q = 4 → M1 q j = M q j) → (∀ j : Int, 0 ≤ j → j < M 1 9 → M1 4 j = M 2 j) → (∀ j : Int, ¬ (0 ≤ j ∧ j < M 1 9) → M1 4 j = M 4 j) → post none M1) : xa_C (xl_I b) A h0 (d + 3) 31 [(2, 1, 0, 0, 0)] M post := by
  refine xa_C_arg [(2, 1, 0, 0, 0)] (xa_svR xa_sv0) ?_
  refine xa_meth (Q0 := (2, 0, false, 0, 0, 1)) (by decide +kernel) ⟨rfl, rfl⟩ (full := s_c_31) rfl rfl ?_
  intro hM hv Q hgo
  have loop : ∀ (n : Nat) (i : Int) (M1 : xa_M), 0 ≤ i ∧ i ≤ M 1 9 → (∀ (q : Nat) (j : Int), ¬ q = 4 → M1 q j = M q j) → (∀ j : Int, 0 ≤ j → j < i → M1 4 j = sv_T (M 2) (M 3) 3 0 0 j) → (∀ j : Int, ¬ (0 ≤ j ∧ j < i) → M1 4 j = M 4 j) → 14 - i < (n : Int) → Q 2 [(1, (0, 0, 0, 14, i)), (0, (2, 1, 0, 0, 0))] [] M1 := by
    intro n
    induction n with
    | zero => intro i M1 h1 hk hT hN hms; omega
    | succ n ih =>
      intro i M1 h1 hk hT hN hms
      have e9 := hk 1 9 (by decide)
      refine hgo.1 18 [2] 2 _ _ _ ?_
      refine And.intro ?_ ?_
      · intro (c1 : (M1 1 9) ≤ i)
        show post none M1
        exact k _ hk (fun j j0 j1 => (hT j j0 (by omega)).trans (sv_p3 rfl rfl).symm) (fun j hj => hN j (by omega))
      · intro (c1 : i < (M1 1 9))
        show xa_C (xl_I b) A h0 _ 22 [(2, 1, 0, 0, 0), (0, 0, 0, 14, i)] M1 _
        refine cx_22_1 (show 0 ≤ i ∧ i < 14 by omega) ?_
        show xa_C (xl_I b) A h0 _ 18 [(2, 4, 0, 0, 0), (0, 0, 0, 14, i), (0, 0, (-2147483648), 2147483647, M1 2 i)] M1 _
        refine cx_18_4 (show 0 ≤ i ∧ i < 14 by omega) ?_
        show Q 2 [(1, (0, 0, 1, 15, i + 1)), (0, (2, 1, 0, 0, 0))] [] (xa_up M1 4 i (M1 2 i))
        refine hgo.2.1 2 _ [(1, (0, 0, 0, 14, i + 1)), (0, (2, 1, 0, 0, 0))] _ _ (xa_subI rfl rfl (fun _ _ _ _ => by omega) (xa_subR rfl (xa_sub0))) ?_
        exact ih (i + 1) (xa_up M1 4 i (M1 2 i)) (by omega) (fun q j hq => (xa_up_ne (fun e => hq e.1)).trans (hk q j hq)) (sv_ts (L := M 2) (H := M 3) (a := 3) (f := 0) (st := 0) hT (sv_p3 rfl (hk 2 i (by decide)))) (sv_tn (by omega) hN) (by omega)
  refine hgo.1 7 [2] 0 _ _ _ ?_
  show Q 2 [(1, (0, 0, 0, 0, 0)), (0, (2, 1, 0, 0, 0))] [] M
  refine hgo.2.1 2 _ [(1, (0, 0, 0, 14, 0)), (0, (2, 1, 0, 0, 0))] _ _ (xa_subI rfl rfl (fun _ _ _ _ => by omega) (xa_subR rfl (xa_sub0))) ?_
  exact loop 15 0 M (by omega) (fun _ _ _ => rfl) (fun j j0 j1 => by omega) (fun _ _ => rfl) (by omega)
theorem cw_30s {b : Bool} {A : Nat → Nat} {h0 : g_H} {d : Nat} {M : xa_M} {post : Option xa_V → xa_M → Prop} {l1 u1 l2 u2 l3 u3 l4 u4 x1 x2 x3 x4 : Int} (hn : 0 ≤ M 1 9 ∧ M 1 9 ≤ 14) (k : ∀ (lo n hi : Int) (M1 : xa_M), (∀ (q : Nat) (j : Int), ¬ q = 4 → M1 q j = M q j) → sv_Q (M 2) (M 3) (M 4) x1 x2 x3 x4 (M 1 9) (M1 4) → post (some (0, 0, lo, hi, n)) M1) : xa_C (xl_I b) A h0 (d + 4) 30 [(2, 0, 0, 0, 0), (0, 0, l1, u1, x1), (0, 0, l2, u2, x2), (0, 0, l3, u3, x3), (0, 0, l4, u4, x4)] M post := by
  refine xa_C_arg [(2, 0, 0, 0, 0), (0, 0, (-2147483648), 2147483647, x1), (0, 0, (-2147483648), 2147483647, x2), (0, 0, (-2147483648), 2147483647, x3), (0, 0, (-2147483648), 2147483647, x4)] (xa_svR (xa_svI (fun _ _ _ _ => by omega) (xa_svI (fun _ _ _ _ => by omega) (xa_svI (fun _ _ _ _ => by omega) (xa_svI (fun _ _ _ _ => by omega) (xa_sv0)))))) ?_
  refine xa_meth (Q0 := (7, 1, false, 0, 0, 11)) (by decide +kernel) ⟨rfl, rfl⟩ (full := s_c_30) rfl rfl ?_
  intro hM hv Q hgo
  have loop : ∀ (hd : Int), hd ≤ 14 → (∀ j : Int, 0 ≤ j → (j < hd ↔ j < M 1 9 ∧ j < x2)) → sv_ok x1 x2 → ¬ x1 = 3 → ∀ (n : Nat) (i : Int) (M1 : xa_M), 0 ≤ i ∧ i ≤ hd → (∀ (q : Nat) (j : Int), ¬ q = 4 → M1 q j = M q j) → (∀ j : Int, 0 ≤ j → j < i → M1 4 j = sv_T (M 2) (M 3) x1 x3 x4 j) → (∀ j : Int, ¬ (0 ≤ j ∧ j < i) → M1 4 j = M 4 j) → 14 - i < (n : Int) → Q 55 [(6, (0, 0, 0, 14, i)), (5, (0, 0, (-2147483648), 14, hd)), (4, (0, 0, (-2147483648), 2147483647, x4)), (3, (0, 0, (-2147483648), 2147483647, x3)), (1, (0, 0, (-2147483648), 2147483647, x1)), (0, (2, 0, 0, 0, 0))] [] M1 := by
    intro hd hhd hh hok ha n
    induction n with
    | zero => intro i M1 h1 hk hT hN hms; omega
    | succ n ih =>
      intro i M1 h1 hk hT hN hms
      refine hgo.1 21 [55] 55 _ _ _ ?_
      refine And.intro ?_ ?_
      · intro (c1 : hd ≤ i)
        show post (some (0, 0, (-2147483648), 14, hd)) M1
        exact k _ _ _ M1 hk (Or.inl ⟨hok, fun j j0 j1 j2 => hT j j0 (by have := hh j j0; omega), fun j hj => hN j (fun h => hj (by have := hh j h.1; omega))⟩)
      · intro (c1 : i < hd)
        show xa_C (xl_I b) A h0 _ 33 [(0, 0, (-2147483648), 2147483647, x1), (0, 0, (-2147483648), 2147483647, xa_w32 (x3 + (xa_w32 (i * x4))))] M1 _
        refine cx_33s ?_
        intro r101 (i2 : r101 = sv_k x1 (xa_w32 (x3 + (xa_w32 (i * x4)))))
        show xa_C (xl_I b) A h0 _ 34 [(2, 1, 0, 0, 0), (0, 0, 0, 14, i), (0, 0, (-2147483648), 2147483647, r101)] M1 _
        refine cx_34s (show 0 ≤ i ∧ i < 14 by omega) ?_
        show Q 55 [(6, (0, 0, 1, 15, i + 1)), (5, (0, 0, (-2147483648), 14, hd)), (4, (0, 0, (-2147483648), 2147483647, x4)), (3, (0, 0, (-2147483648), 2147483647, x3)), (1, (0, 0, (-2147483648), 2147483647, x1)), (0, (2, 0, 0, 0, 0))] [] (xa_up M1 4 i (sv_c (M1 2 i) (M1 3 i) r101))
        refine hgo.2.1 55 _ [(6, (0, 0, 0, 14, i + 1)), (5, (0, 0, (-2147483648), 14, hd)), (4, (0, 0, (-2147483648), 2147483647, x4)), (3, (0, 0, (-2147483648), 2147483647, x3)), (1, (0, 0, (-2147483648), 2147483647, x1)), (0, (2, 0, 0, 0, 0))] _ _ (xa_subI rfl rfl (fun _ _ _ _ => by omega) (xa_subI rfl rfl (fun _ _ _ _ => by omega) (xa_subI rfl rfl (fun _ _ _ _ => by omega) (xa_subI rfl rfl (fun _ _ _ _ => by omega) (xa_subI rfl rfl (fun _ _ _ _ => by omega) (xa_subR rfl (xa_sub0))))))) ?_
        exact ih (i + 1) (xa_up M1 4 i (sv_c (M1 2 i) (M1 3 i) r101)) (by omega) (fun q j hq => (xa_up_ne (fun e => hq e.1)).trans (hk q j hq)) (sv_ts hT (by
          unfold sv_T
          rw [if_neg ha, ← hk 2 i (by decide), ← hk 3 i (by decide), ← sv_fm, ← i2])) (sv_tn (by omega) hN) (by omega)
  refine hgo.1 26 [55] 0 _ _ _ ?_
  refine And.intro ?_ ?_
  · intro (c1 : x1 < 0)
    show post (some (0, 0, (-1), (-1), (-1))) M
    exact k _ _ _ _ (fun _ _ _ => rfl) (Or.inr ⟨by unfold sv_ok; omega, fun _ => rfl⟩)
  · intro (c1 : 0 ≤ x1)
    refine And.intro ?_ ?_
    · intro (c2 : 3 < x1)
      show post (some (0, 0, (-1), (-1), (-1))) M
      exact k _ _ _ _ (fun _ _ _ => rfl) (Or.inr ⟨by unfold sv_ok; omega, fun _ => rfl⟩)
    · intro (c2 : x1 ≤ 3)
      refine And.intro ?_ ?_
      · intro (c3 : x2 ≤ 14)
        refine And.intro ?_ ?_
        · intro (c4 : ¬ x1 = 3)
          refine And.intro ?_ ?_
          · intro (c5 : 0 ≤ x2)
            show xa_C (xl_I b) A h0 _ 32 [(0, 0, (-2147483648), 2147483647, x2), (0, 0, (-2147483648), 2147483647, M 1 9)] M _
            refine cx_32 ?_ ?_
            · intro (i6 : (M 1 9) < x2)
              show Q 55 [(6, (0, 0, 0, 0, 0)), (5, (0, 0, (-2147483648), 2147483647, M 1 9)), (0, (2, 0, 0, 0, 0)), (1, (0, 0, (-2147483648), 2147483647, x1)), (2, (0, 0, (-2147483648), 2147483647, x2)), (3, (0, 0, (-2147483648), 2147483647, x3)), (4, (0, 0, (-2147483648), 2147483647, x4))] [] M
              refine hgo.2.1 55 _ [(6, (0, 0, 0, 14, 0)), (5, (0, 0, (-2147483648), 14, M 1 9)), (4, (0, 0, (-2147483648), 2147483647, x4)), (3, (0, 0, (-2147483648), 2147483647, x3)), (1, (0, 0, (-2147483648), 2147483647, x1)), (0, (2, 0, 0, 0, 0))] _ _ (xa_subI rfl rfl (fun _ _ _ _ => by omega) (xa_subI rfl rfl (fun _ _ _ _ => by omega) (xa_subI rfl rfl (fun _ _ _ _ => by omega) (xa_subI rfl rfl (fun _ _ _ _ => by omega) (xa_subI rfl rfl (fun _ _ _ _ => by omega) (xa_subR rfl (xa_sub0))))))) ?_
              exact loop (M 1 9) (by omega) (fun j j0 => by omega) (by unfold sv_ok; omega) (by omega) 15 0 M (by omega) (fun _ _ _ => rfl) (fun j j0 j1 => by omega) (fun _ _ => rfl) (by omega)
            · intro (i7 : x2 ≤ (M 1 9))
              show Q 55 [(6, (0, 0, 0, 0, 0)), (5, (0, 0, (-2147483648), 2147483647, x2)), (0, (2, 0, 0, 0, 0)), (1, (0, 0, (-2147483648), 2147483647, x1)), (2, (0, 0, (-2147483648), 2147483647, x2)), (3, (0, 0, (-2147483648), 2147483647, x3)), (4, (0, 0, (-2147483648), 2147483647, x4))] [] M
              refine hgo.2.1 55 _ [(6, (0, 0, 0, 14, 0)), (5, (0, 0, (-2147483648), 14, x2)), (4, (0, 0, (-2147483648), 2147483647, x4)), (3, (0, 0, (-2147483648), 2147483647, x3)), (1, (0, 0, (-2147483648), 2147483647, x1)), (0, (2, 0, 0, 0, 0))] _ _ (xa_subI rfl rfl (fun _ _ _ _ => by omega) (xa_subI rfl rfl (fun _ _ _ _ => by omega) (xa_subI rfl rfl (fun _ _ _ _ => by omega) (xa_subI rfl rfl (fun _ _ _ _ => by omega) (xa_subI rfl rfl (fun _ _ _ _ => by omega) (xa_subR rfl (xa_sub0))))))) ?_
              exact loop x2 (by omega) (fun j j0 => by omega) (by unfold sv_ok; omega) (by omega) 15 0 M (by omega) (fun _ _ _ => rfl) (fun j j0 j1 => by omega) (fun _ _ => rfl) (by omega)
          · intro (c5 : x2 < 0)
            show post (some (0, 0, (-2), (-2), (-2))) M
            exact k _ _ _ _ (fun _ _ _ => rfl) (Or.inr ⟨by unfold sv_ok; omega, fun _ => rfl⟩)
        · intro (c4 : x1 = 3)
          show xa_C (xl_I b) A h0 _ 31 [(2, 1, 0, 0, 0)] M _
          refine cx_31s (show 0 ≤ M 1 9 ∧ M 1 9 ≤ 14 by omega) ?_
          intro M102 (i8 : ∀ (q : Nat) (j : Int), ¬ q = 4 → M102 q j = M q j) (i9 : ∀ j : Int, 0 ≤ j → j < M 1 9 → M102 4 j = M 2 j) (i10 : ∀ j : Int, ¬ (0 ≤ j ∧ j < M 1 9) → M102 4 j = M 4 j)
          show post (some (0, 0, (-3), (-3), (-3))) M102
          have ha : x1 = 3 := by omega
          exact k _ _ _ _ i8 (Or.inl ⟨by unfold sv_ok; omega, fun j j0 j1 _ => (i9 j j0 j1).trans (sv_p3 ha rfl), fun j hj => i10 j (fun h => hj ⟨h.1, h.2, Or.inl ha⟩)⟩)
      · intro (c3 : 14 < x2)
        show post (some (0, 0, (-1), (-1), (-1))) M
        exact k _ _ _ _ (fun _ _ _ => rfl) (Or.inr ⟨by unfold sv_ok; omega, fun _ => rfl⟩)
theorem ms_sheetG {A : Nat → Nat} {h0 : g_H} {d : Nat} {M : xa_M} {post : Option xa_V → xa_M → Prop} {l1 u1 l2 u2 l3 u3 l4 u4 : Int} {a b c e : Int} (hI : xm_Inv M) (k : ∀ (o : Option xa_V) (M1 : xa_M), (∃ lo hi n, o = some (0, 0, lo, hi, n)) → (∀ (q : Nat) (j : Int), ¬ xm_scr q j → ¬ q = 63 → M1 q j = M q j) → sv_Q (M 61) (M 62) (M 63) a b c e (M 60 0) (M1 63) → xm_Inv M1 → post o M1) : xa_C xm_I A h0 (d + 3) 219 [(2, 60, 0, 0, 0), (0, 0, l1, u1, a), (0, 0, l2, u2, b), (0, 0, l3, u3, c), (0, 0, l4, u4, e)] M post := by
  refine xa_C_arg [(2, 60, 0, 0, 0), (0, 0, (-2147483648), 2147483647, a), (0, 0, (-2147483648), 2147483647, b), (0, 0, (-2147483648), 2147483647, c), (0, 0, (-2147483648), 2147483647, e)] (xa_svR (xa_svI (fun _ _ _ _ => by omega) (xa_svI (fun _ _ _ _ => by omega) (xa_svI (fun _ _ _ _ => by omega) (xa_svI (fun _ _ _ _ => by omega) xa_sv0))))) ?_
  refine xa_meth (Q0 := (9, 1, false, 0, 0, 12)) (by decide +kernel) ⟨rfl, rfl⟩ (full := s_c_219) rfl rfl ?_
  intro hM hv Q hgo
  have b0 := xm_f0 hM
  have b6 := xm_f6 hM
  have vc : -2147483648 ≤ c ∧ c ≤ 2147483647 := hv _ (List.mem_cons_of_mem _ (List.mem_cons_of_mem _ (List.mem_cons_of_mem _ List.mem_cons_self))) (show (0 : Nat) < 2 by decide)
  have loop : sv_ok a b → ∀ (n : Nat) (w v t : Int) (M1 : xa_M), 0 ≤ w → w ≤ 14 → (∀ q j, ¬ xm_scr q j → ¬ q = 63 → M1 q j = M q j) → (∀ x, 0 ≤ x → x < M 60 0 → 10 ≤ M1 63 x) → v = sv_f c e w → (w ≤ M 60 0 ∧ (a = 3 ∨ w ≤ b)) → (∀ x, 0 ≤ x → x < w → M1 63 x = sv_T (M 61) (M 62) a c e x) → (∀ x, ¬ (0 ≤ x ∧ x < w) → M1 63 x = M 63 x) → 14 - w < (n : Int) → Q 43 [(7, (0, 0, 0, 14, w)), (6, (0, 0, (-2147483648), 2147483647, v)), (5, (0, 0, (-2147483648), 2147483647, t)), (4, (0, 0, (-2147483648), 2147483647, e)), (2, (0, 0, (-2147483648), 14, b)), (1, (0, 0, 0, 3, a)), (0, (2, 60, 0, 0, 0))] [] M1 := by
    intro hok n
    induction n with
    | zero => intro w v t M1 h1 h2 hs ht hv9 hle hT hN hms; omega
    | succ n ih =>
      intro w v t M1 h1 h2 hs ht hv9 hle hT hN hms
      refine hgo.2.2 _ _ _ _ (fun hM1 _ => ?_)
      have e0 := hs 60 0 (by omega) (by omega)
      have a1 := hs 61 w (by omega) (by omega)
      have a2 := hs 62 w (by omega) (by omega)
      have hw := hI.1 w h1
      have t61 : w < 14 → 0 ≤ M1 61 w ∧ M1 61 w ≤ 400 := xm_t61 hM1 w h1
      refine hgo.1 49 [43] 43 _ _ _ ?_
      refine And.intro ?_ ?_
      · intro (c1 : (M1 60 0) ≤ w)
        refine And.intro ?_ ?_
        · intro (c2 : ¬ a = 3)
          show post (some (0, 0, (-2147483648), 2147483647, t)) M1
          exact k _ _ ⟨_, _, _, rfl⟩ hs (Or.inl ⟨hok, fun x x0 x1 x2 => hT x x0 (by omega), fun x hx => hN x (fun h => hx ⟨h.1, by omega, by omega⟩)⟩) (xm_Inv_b (M := M) (fun j => hs 104 j (by omega) (by omega)) (fun j => hs 105 j (by omega) (by omega)) hI (fun x x0 x1 => by
            rw [e0] at x1
            rw [hs 61 x (by omega) (by omega), hs 62 x (by omega) (by omega)]
            have h := hI.1 x x0 x1
            exact ⟨h.1, h.2.1, ht x x0 x1⟩) (fun m m0 m1 => by
            rw [hs 60 6 (by omega) (by omega)] at m1
            rw [hs 66 m (by omega) (by omega), hs 67 m (by omega) (by omega), e0]
            exact hI.2.1 m m0 m1) (fun p p0 p1 => by
            rw [hs 60 11 (by omega) (by omega)] at p1
            rw [hs 70 p (by omega) (by omega), hs 71 p (by omega) (by omega)]
            exact hI.2.2.1 p p0 p1) (by
            rw [hs 60 15 (by omega) (by omega), hs 60 16 (by omega) (by omega)]
            exact hI.2.2.2.1))
        · intro (c2 : a = 3)
          show post (some (0, 0, (-3), (-3), (-3))) M1
          exact k _ _ ⟨_, _, _, rfl⟩ hs (Or.inl ⟨hok, fun x x0 x1 x2 => hT x x0 (by omega), fun x hx => hN x (fun h => hx ⟨h.1, by omega, by omega⟩)⟩) (xm_Inv_b (M := M) (fun j => hs 104 j (by omega) (by omega)) (fun j => hs 105 j (by omega) (by omega)) hI (fun x x0 x1 => by
            rw [e0] at x1
            rw [hs 61 x (by omega) (by omega), hs 62 x (by omega) (by omega)]
            have h := hI.1 x x0 x1
            exact ⟨h.1, h.2.1, ht x x0 x1⟩) (fun m m0 m1 => by
            rw [hs 60 6 (by omega) (by omega)] at m1
            rw [hs 66 m (by omega) (by omega), hs 67 m (by omega) (by omega), e0]
            exact hI.2.1 m m0 m1) (fun p p0 p1 => by
            rw [hs 60 11 (by omega) (by omega)] at p1
            rw [hs 70 p (by omega) (by omega), hs 71 p (by omega) (by omega)]
            exact hI.2.2.1 p p0 p1) (by
            rw [hs 60 15 (by omega) (by omega), hs 60 16 (by omega) (by omega)]
            exact hI.2.2.2.1))
      · intro (c1 : w < (M1 60 0))
        refine And.intro ?_ ?_
        · intro (c3 : a = 3)
          refine And.intro ?_ ?_
          · intro (c4 : ¬ a = 0)
            refine And.intro ?_ ?_
            · intro (c5 : ¬ a = 1)
              refine And.intro ?_ ?_
              · intro (c6 : ¬ a = 3)
                refine And.intro (show 0 ≤ w ∧ w < 14 by omega) ?_
                refine And.intro (show 0 ≤ w ∧ w < 14 by omega) ?_
                show xa_C xm_I A h0 _ 32 [(0, 0, 0, 400, M1 62 w), (0, 0, (-2147483648), 2147483647, v)] M1 _
                refine ct_min (-2147483648) 400 (by decide) (by decide) (by decide) (fun r7 br7 er7 => ?_)
                show xa_C xm_I A h0 _ 35 [(0, 0, 0, 400, M1 61 w), (0, 0, (-2147483648), 400, r7)] M1 _
                refine ct_max 0 400 (by decide) (by decide) (by decide) (fun r8 br8 er8 => ?_)
                refine And.intro (show 0 ≤ w ∧ w < 14 by omega) ?_
                show Q 43 [(7, (0, 0, 1, 15, w + 1)), (5, (0, 0, (-2147483648), 2147483647, xa_w32 (t + 1))), (6, (0, 0, (-2147483648), 2147483647, xa_w32 (v + e))), (8, (0, 0, (-2147483648), 2147483647, v)), (4, (0, 0, (-2147483648), 2147483647, e)), (2, (0, 0, (-2147483648), 14, b)), (1, (0, 0, 0, 3, a)), (0, (2, 60, 0, 0, 0))] [] (xa_up M1 63 w r8)
                refine hgo.2.1 43 _ [(7, (0, 0, 0, 14, w + 1)), (6, (0, 0, (-2147483648), 2147483647, xa_w32 (v + e))), (5, (0, 0, (-2147483648), 2147483647, xa_w32 (t + 1))), (4, (0, 0, (-2147483648), 2147483647, e)), (2, (0, 0, (-2147483648), 14, b)), (1, (0, 0, 0, 3, a)), (0, (2, 60, 0, 0, 0))] _ _ (xa_subI rfl rfl (fun _ _ _ _ => by omega) (xa_subI rfl rfl (fun _ _ _ _ => by omega) (xa_subI rfl rfl (fun _ _ _ _ => by omega) (xa_subI rfl rfl (fun _ _ _ _ => by omega) (xa_subI rfl rfl (fun _ _ _ _ => by omega) (xa_subI rfl rfl (fun _ _ _ _ => by omega) (xa_subR rfl xa_sub0))))))) ?_
                exact ih (w + 1) (xa_w32 (v + e)) (xa_w32 (t + 1)) (xa_up M1 63 w r8) (by omega) (by omega) (fun q j hn hq => by
                  rw [xa_up_ne (fun e => hq e.1)]
                  exact hs q j hn hq) (fun x x0 x1 => by
                  by_cases e : x = w
                  · subst e
                    simp [xa_up]
                    omega
                  · simp [xa_up, e]
                    exact ht x x0 x1) (by rw [hv9]; exact sv_fs) (by omega) (sv_ts hT (sv_pc (kv := v) (q := r7) (by omega) hv9 (by unfold sv_k; rw [if_neg (by omega), if_neg (by omega)]) (by omega) (by omega))) (sv_tn h1 hN) (by omega)
              · intro (c6 : a = 3)
                refine And.intro (show 0 ≤ w ∧ w < 14 by omega) ?_
                refine And.intro (show 0 ≤ w ∧ w < 14 by omega) ?_
                show Q 43 [(7, (0, 0, 1, 15, w + 1)), (5, (0, 0, (-2147483648), 2147483647, xa_w32 (t + 1))), (6, (0, 0, (-2147483648), 2147483647, xa_w32 (v + e))), (8, (0, 0, (-2147483648), 2147483647, v)), (4, (0, 0, (-2147483648), 2147483647, e)), (2, (0, 0, (-2147483648), 14, b)), (1, (0, 0, 0, 3, a)), (0, (2, 60, 0, 0, 0))] [] (xa_up M1 63 w (M1 61 w))
                refine hgo.2.1 43 _ [(7, (0, 0, 0, 14, w + 1)), (6, (0, 0, (-2147483648), 2147483647, xa_w32 (v + e))), (5, (0, 0, (-2147483648), 2147483647, xa_w32 (t + 1))), (4, (0, 0, (-2147483648), 2147483647, e)), (2, (0, 0, (-2147483648), 14, b)), (1, (0, 0, 0, 3, a)), (0, (2, 60, 0, 0, 0))] _ _ (xa_subI rfl rfl (fun _ _ _ _ => by omega) (xa_subI rfl rfl (fun _ _ _ _ => by omega) (xa_subI rfl rfl (fun _ _ _ _ => by omega) (xa_subI rfl rfl (fun _ _ _ _ => by omega) (xa_subI rfl rfl (fun _ _ _ _ => by omega) (xa_subI rfl rfl (fun _ _ _ _ => by omega) (xa_subR rfl xa_sub0))))))) ?_
                exact ih (w + 1) (xa_w32 (v + e)) (xa_w32 (t + 1)) (xa_up M1 63 w (M1 61 w)) (by omega) (by omega) (fun q j hn hq => by
                  rw [xa_up_ne (fun e => hq e.1)]
                  exact hs q j hn hq) (fun x x0 x1 => by
                  by_cases e : x = w
                  · subst e
                    simp [xa_up]
                    omega
                  · simp [xa_up, e]
                    exact ht x x0 x1) (by rw [hv9]; exact sv_fs) (by omega) (sv_ts hT (sv_p3 (by omega) (by omega))) (sv_tn h1 hN) (by omega)
            · intro (c5 : a = 1)
              refine And.intro ?_ ?_
              · intro (c9 : ¬ a = 3)
                refine And.intro (show 0 ≤ w ∧ w < 14 by omega) ?_
                refine And.intro (show 0 ≤ w ∧ w < 14 by omega) ?_
                show xa_C xm_I A h0 _ 32 [(0, 0, 0, 400, M1 62 w), (0, 0, (-32768), 32767, xa_i16 v)] M1 _
                refine ct_min (-32768) 400 (by decide) (by decide) (by decide) (fun r10 br10 er10 => ?_)
                show xa_C xm_I A h0 _ 35 [(0, 0, 0, 400, M1 61 w), (0, 0, (-32768), 400, r10)] M1 _
                refine ct_max 0 400 (by decide) (by decide) (by decide) (fun r11 br11 er11 => ?_)
                refine And.intro (show 0 ≤ w ∧ w < 14 by omega) ?_
                show Q 43 [(7, (0, 0, 1, 15, w + 1)), (5, (0, 0, (-2147483648), 2147483647, xa_w32 (t + 1))), (6, (0, 0, (-2147483648), 2147483647, xa_w32 (v + e))), (8, (0, 0, (-32768), 32767, xa_i16 v)), (4, (0, 0, (-2147483648), 2147483647, e)), (2, (0, 0, (-2147483648), 14, b)), (1, (0, 0, 0, 3, a)), (0, (2, 60, 0, 0, 0))] [] (xa_up M1 63 w r11)
                refine hgo.2.1 43 _ [(7, (0, 0, 0, 14, w + 1)), (6, (0, 0, (-2147483648), 2147483647, xa_w32 (v + e))), (5, (0, 0, (-2147483648), 2147483647, xa_w32 (t + 1))), (4, (0, 0, (-2147483648), 2147483647, e)), (2, (0, 0, (-2147483648), 14, b)), (1, (0, 0, 0, 3, a)), (0, (2, 60, 0, 0, 0))] _ _ (xa_subI rfl rfl (fun _ _ _ _ => by omega) (xa_subI rfl rfl (fun _ _ _ _ => by omega) (xa_subI rfl rfl (fun _ _ _ _ => by omega) (xa_subI rfl rfl (fun _ _ _ _ => by omega) (xa_subI rfl rfl (fun _ _ _ _ => by omega) (xa_subI rfl rfl (fun _ _ _ _ => by omega) (xa_subR rfl xa_sub0))))))) ?_
                exact ih (w + 1) (xa_w32 (v + e)) (xa_w32 (t + 1)) (xa_up M1 63 w r11) (by omega) (by omega) (fun q j hn hq => by
                  rw [xa_up_ne (fun e => hq e.1)]
                  exact hs q j hn hq) (fun x x0 x1 => by
                  by_cases e : x = w
                  · subst e
                    simp [xa_up]
                    omega
                  · simp [xa_up, e]
                    exact ht x x0 x1) (by rw [hv9]; exact sv_fs) (by omega) (sv_ts hT (sv_pc (kv := xa_i16 v) (q := r10) (by omega) hv9 (by unfold sv_k; rw [if_neg (by omega), if_pos (by omega)]) (by omega) (by omega))) (sv_tn h1 hN) (by omega)
              · intro (c9 : a = 3)
                refine And.intro (show 0 ≤ w ∧ w < 14 by omega) ?_
                refine And.intro (show 0 ≤ w ∧ w < 14 by omega) ?_
                show Q 43 [(7, (0, 0, 1, 15, w + 1)), (5, (0, 0, (-2147483648), 2147483647, xa_w32 (t + 1))), (6, (0, 0, (-2147483648), 2147483647, xa_w32 (v + e))), (8, (0, 0, (-32768), 32767, xa_i16 v)), (4, (0, 0, (-2147483648), 2147483647, e)), (2, (0, 0, (-2147483648), 14, b)), (1, (0, 0, 0, 3, a)), (0, (2, 60, 0, 0, 0))] [] (xa_up M1 63 w (M1 61 w))
                refine hgo.2.1 43 _ [(7, (0, 0, 0, 14, w + 1)), (6, (0, 0, (-2147483648), 2147483647, xa_w32 (v + e))), (5, (0, 0, (-2147483648), 2147483647, xa_w32 (t + 1))), (4, (0, 0, (-2147483648), 2147483647, e)), (2, (0, 0, (-2147483648), 14, b)), (1, (0, 0, 0, 3, a)), (0, (2, 60, 0, 0, 0))] _ _ (xa_subI rfl rfl (fun _ _ _ _ => by omega) (xa_subI rfl rfl (fun _ _ _ _ => by omega) (xa_subI rfl rfl (fun _ _ _ _ => by omega) (xa_subI rfl rfl (fun _ _ _ _ => by omega) (xa_subI rfl rfl (fun _ _ _ _ => by omega) (xa_subI rfl rfl (fun _ _ _ _ => by omega) (xa_subR rfl xa_sub0))))))) ?_
                exact ih (w + 1) (xa_w32 (v + e)) (xa_w32 (t + 1)) (xa_up M1 63 w (M1 61 w)) (by omega) (by omega) (fun q j hn hq => by
                  rw [xa_up_ne (fun e => hq e.1)]
                  exact hs q j hn hq) (fun x x0 x1 => by
                  by_cases e : x = w
                  · subst e
                    simp [xa_up]
                    omega
                  · simp [xa_up, e]
                    exact ht x x0 x1) (by rw [hv9]; exact sv_fs) (by omega) (sv_ts hT (sv_p3 (by omega) (by omega))) (sv_tn h1 hN) (by omega)
          · intro (c4 : a = 0)
            refine And.intro ?_ ?_
            · intro (c12 : ¬ a = 3)
              refine And.intro (show 0 ≤ w ∧ w < 14 by omega) ?_
              refine And.intro (show 0 ≤ w ∧ w < 14 by omega) ?_
              show xa_C xm_I A h0 _ 32 [(0, 0, 0, 400, M1 62 w), (0, 0, (-128), 127, xa_i8 v)] M1 _
              refine ct_min (-128) 127 (by decide) (by decide) (by decide) (fun r13 br13 er13 => ?_)
              show xa_C xm_I A h0 _ 35 [(0, 0, 0, 400, M1 61 w), (0, 0, (-128), 127, r13)] M1 _
              refine ct_max 0 400 (by decide) (by decide) (by decide) (fun r14 br14 er14 => ?_)
              refine And.intro (show 0 ≤ w ∧ w < 14 by omega) ?_
              show Q 43 [(7, (0, 0, 1, 15, w + 1)), (5, (0, 0, (-2147483648), 2147483647, xa_w32 (t + 1))), (6, (0, 0, (-2147483648), 2147483647, xa_w32 (v + e))), (8, (0, 0, (-128), 127, xa_i8 v)), (4, (0, 0, (-2147483648), 2147483647, e)), (2, (0, 0, (-2147483648), 14, b)), (1, (0, 0, 0, 3, a)), (0, (2, 60, 0, 0, 0))] [] (xa_up M1 63 w r14)
              refine hgo.2.1 43 _ [(7, (0, 0, 0, 14, w + 1)), (6, (0, 0, (-2147483648), 2147483647, xa_w32 (v + e))), (5, (0, 0, (-2147483648), 2147483647, xa_w32 (t + 1))), (4, (0, 0, (-2147483648), 2147483647, e)), (2, (0, 0, (-2147483648), 14, b)), (1, (0, 0, 0, 3, a)), (0, (2, 60, 0, 0, 0))] _ _ (xa_subI rfl rfl (fun _ _ _ _ => by omega) (xa_subI rfl rfl (fun _ _ _ _ => by omega) (xa_subI rfl rfl (fun _ _ _ _ => by omega) (xa_subI rfl rfl (fun _ _ _ _ => by omega) (xa_subI rfl rfl (fun _ _ _ _ => by omega) (xa_subI rfl rfl (fun _ _ _ _ => by omega) (xa_subR rfl xa_sub0))))))) ?_
              exact ih (w + 1) (xa_w32 (v + e)) (xa_w32 (t + 1)) (xa_up M1 63 w r14) (by omega) (by omega) (fun q j hn hq => by
                rw [xa_up_ne (fun e => hq e.1)]
                exact hs q j hn hq) (fun x x0 x1 => by
                by_cases e : x = w
                · subst e
                  simp [xa_up]
                  omega
                · simp [xa_up, e]
                  exact ht x x0 x1) (by rw [hv9]; exact sv_fs) (by omega) (sv_ts hT (sv_pc (kv := xa_i8 v) (q := r13) (by omega) hv9 (by unfold sv_k; rw [if_pos (by omega)]) (by omega) (by omega))) (sv_tn h1 hN) (by omega)
            · intro (c12 : a = 3)
              refine And.intro (show 0 ≤ w ∧ w < 14 by omega) ?_
              refine And.intro (show 0 ≤ w ∧ w < 14 by omega) ?_
              show Q 43 [(7, (0, 0, 1, 15, w + 1)), (5, (0, 0, (-2147483648), 2147483647, xa_w32 (t + 1))), (6, (0, 0, (-2147483648), 2147483647, xa_w32 (v + e))), (8, (0, 0, (-128), 127, xa_i8 v)), (4, (0, 0, (-2147483648), 2147483647, e)), (2, (0, 0, (-2147483648), 14, b)), (1, (0, 0, 0, 3, a)), (0, (2, 60, 0, 0, 0))] [] (xa_up M1 63 w (M1 61 w))
              refine hgo.2.1 43 _ [(7, (0, 0, 0, 14, w + 1)), (6, (0, 0, (-2147483648), 2147483647, xa_w32 (v + e))), (5, (0, 0, (-2147483648), 2147483647, xa_w32 (t + 1))), (4, (0, 0, (-2147483648), 2147483647, e)), (2, (0, 0, (-2147483648), 14, b)), (1, (0, 0, 0, 3, a)), (0, (2, 60, 0, 0, 0))] _ _ (xa_subI rfl rfl (fun _ _ _ _ => by omega) (xa_subI rfl rfl (fun _ _ _ _ => by omega) (xa_subI rfl rfl (fun _ _ _ _ => by omega) (xa_subI rfl rfl (fun _ _ _ _ => by omega) (xa_subI rfl rfl (fun _ _ _ _ => by omega) (xa_subI rfl rfl (fun _ _ _ _ => by omega) (xa_subR rfl xa_sub0))))))) ?_
              exact ih (w + 1) (xa_w32 (v + e)) (xa_w32 (t + 1)) (xa_up M1 63 w (M1 61 w)) (by omega) (by omega) (fun q j hn hq => by
                rw [xa_up_ne (fun e => hq e.1)]
                exact hs q j hn hq) (fun x x0 x1 => by
                by_cases e : x = w
                · subst e
                  simp [xa_up]
                  omega
                · simp [xa_up, e]
                  exact ht x x0 x1) (by rw [hv9]; exact sv_fs) (by omega) (sv_ts hT (sv_p3 (by omega) (by omega))) (sv_tn h1 hN) (by omega)
        · intro (c3 : ¬ a = 3)
          refine And.intro ?_ ?_
          · intro (c15 : b ≤ w)
            refine And.intro ?_ ?_
            · intro (c16 : ¬ a = 3)
              show post (some (0, 0, (-2147483648), 2147483647, t)) M1
              exact k _ _ ⟨_, _, _, rfl⟩ hs (Or.inl ⟨hok, fun x x0 x1 x2 => hT x x0 (by omega), fun x hx => hN x (fun h => hx ⟨h.1, by omega, by omega⟩)⟩) (xm_Inv_b (M := M) (fun j => hs 104 j (by omega) (by omega)) (fun j => hs 105 j (by omega) (by omega)) hI (fun x x0 x1 => by
                rw [e0] at x1
                rw [hs 61 x (by omega) (by omega), hs 62 x (by omega) (by omega)]
                have h := hI.1 x x0 x1
                exact ⟨h.1, h.2.1, ht x x0 x1⟩) (fun m m0 m1 => by
                rw [hs 60 6 (by omega) (by omega)] at m1
                rw [hs 66 m (by omega) (by omega), hs 67 m (by omega) (by omega), e0]
                exact hI.2.1 m m0 m1) (fun p p0 p1 => by
                rw [hs 60 11 (by omega) (by omega)] at p1
                rw [hs 70 p (by omega) (by omega), hs 71 p (by omega) (by omega)]
                exact hI.2.2.1 p p0 p1) (by
                rw [hs 60 15 (by omega) (by omega), hs 60 16 (by omega) (by omega)]
                exact hI.2.2.2.1))
            · intro (c16 : a = 3)
              show post (some (0, 0, (-3), (-3), (-3))) M1
              exact k _ _ ⟨_, _, _, rfl⟩ hs (Or.inl ⟨hok, fun x x0 x1 x2 => hT x x0 (by omega), fun x hx => hN x (fun h => hx ⟨h.1, by omega, by omega⟩)⟩) (xm_Inv_b (M := M) (fun j => hs 104 j (by omega) (by omega)) (fun j => hs 105 j (by omega) (by omega)) hI (fun x x0 x1 => by
                rw [e0] at x1
                rw [hs 61 x (by omega) (by omega), hs 62 x (by omega) (by omega)]
                have h := hI.1 x x0 x1
                exact ⟨h.1, h.2.1, ht x x0 x1⟩) (fun m m0 m1 => by
                rw [hs 60 6 (by omega) (by omega)] at m1
                rw [hs 66 m (by omega) (by omega), hs 67 m (by omega) (by omega), e0]
                exact hI.2.1 m m0 m1) (fun p p0 p1 => by
                rw [hs 60 11 (by omega) (by omega)] at p1
                rw [hs 70 p (by omega) (by omega), hs 71 p (by omega) (by omega)]
                exact hI.2.2.1 p p0 p1) (by
                rw [hs 60 15 (by omega) (by omega), hs 60 16 (by omega) (by omega)]
                exact hI.2.2.2.1))
          · intro (c15 : w < b)
            refine And.intro ?_ ?_
            · intro (c17 : ¬ a = 0)
              refine And.intro ?_ ?_
              · intro (c18 : ¬ a = 1)
                refine And.intro ?_ ?_
                · intro (c19 : ¬ a = 3)
                  refine And.intro (show 0 ≤ w ∧ w < 14 by omega) ?_
                  refine And.intro (show 0 ≤ w ∧ w < 14 by omega) ?_
                  show xa_C xm_I A h0 _ 32 [(0, 0, 0, 400, M1 62 w), (0, 0, (-2147483648), 2147483647, v)] M1 _
                  refine ct_min (-2147483648) 400 (by decide) (by decide) (by decide) (fun r20 br20 er20 => ?_)
                  show xa_C xm_I A h0 _ 35 [(0, 0, 0, 400, M1 61 w), (0, 0, (-2147483648), 400, r20)] M1 _
                  refine ct_max 0 400 (by decide) (by decide) (by decide) (fun r21 br21 er21 => ?_)
                  refine And.intro (show 0 ≤ w ∧ w < 14 by omega) ?_
                  show Q 43 [(7, (0, 0, 1, 15, w + 1)), (5, (0, 0, (-2147483648), 2147483647, xa_w32 (t + 1))), (6, (0, 0, (-2147483648), 2147483647, xa_w32 (v + e))), (8, (0, 0, (-2147483648), 2147483647, v)), (4, (0, 0, (-2147483648), 2147483647, e)), (2, (0, 0, (-2147483648), 14, b)), (1, (0, 0, 0, 3, a)), (0, (2, 60, 0, 0, 0))] [] (xa_up M1 63 w r21)
                  refine hgo.2.1 43 _ [(7, (0, 0, 0, 14, w + 1)), (6, (0, 0, (-2147483648), 2147483647, xa_w32 (v + e))), (5, (0, 0, (-2147483648), 2147483647, xa_w32 (t + 1))), (4, (0, 0, (-2147483648), 2147483647, e)), (2, (0, 0, (-2147483648), 14, b)), (1, (0, 0, 0, 3, a)), (0, (2, 60, 0, 0, 0))] _ _ (xa_subI rfl rfl (fun _ _ _ _ => by omega) (xa_subI rfl rfl (fun _ _ _ _ => by omega) (xa_subI rfl rfl (fun _ _ _ _ => by omega) (xa_subI rfl rfl (fun _ _ _ _ => by omega) (xa_subI rfl rfl (fun _ _ _ _ => by omega) (xa_subI rfl rfl (fun _ _ _ _ => by omega) (xa_subR rfl xa_sub0))))))) ?_
                  exact ih (w + 1) (xa_w32 (v + e)) (xa_w32 (t + 1)) (xa_up M1 63 w r21) (by omega) (by omega) (fun q j hn hq => by
                    rw [xa_up_ne (fun e => hq e.1)]
                    exact hs q j hn hq) (fun x x0 x1 => by
                    by_cases e : x = w
                    · subst e
                      simp [xa_up]
                      omega
                    · simp [xa_up, e]
                      exact ht x x0 x1) (by rw [hv9]; exact sv_fs) (by omega) (sv_ts hT (sv_pc (kv := v) (q := r20) (by omega) hv9 (by unfold sv_k; rw [if_neg (by omega), if_neg (by omega)]) (by omega) (by omega))) (sv_tn h1 hN) (by omega)
                · intro (c19 : a = 3)
                  refine And.intro (show 0 ≤ w ∧ w < 14 by omega) ?_
                  refine And.intro (show 0 ≤ w ∧ w < 14 by omega) ?_
                  show Q 43 [(7, (0, 0, 1, 15, w + 1)), (5, (0, 0, (-2147483648), 2147483647, xa_w32 (t + 1))), (6, (0, 0, (-2147483648), 2147483647, xa_w32 (v + e))), (8, (0, 0, (-2147483648), 2147483647, v)), (4, (0, 0, (-2147483648), 2147483647, e)), (2, (0, 0, (-2147483648), 14, b)), (1, (0, 0, 0, 3, a)), (0, (2, 60, 0, 0, 0))] [] (xa_up M1 63 w (M1 61 w))
                  refine hgo.2.1 43 _ [(7, (0, 0, 0, 14, w + 1)), (6, (0, 0, (-2147483648), 2147483647, xa_w32 (v + e))), (5, (0, 0, (-2147483648), 2147483647, xa_w32 (t + 1))), (4, (0, 0, (-2147483648), 2147483647, e)), (2, (0, 0, (-2147483648), 14, b)), (1, (0, 0, 0, 3, a)), (0, (2, 60, 0, 0, 0))] _ _ (xa_subI rfl rfl (fun _ _ _ _ => by omega) (xa_subI rfl rfl (fun _ _ _ _ => by omega) (xa_subI rfl rfl (fun _ _ _ _ => by omega) (xa_subI rfl rfl (fun _ _ _ _ => by omega) (xa_subI rfl rfl (fun _ _ _ _ => by omega) (xa_subI rfl rfl (fun _ _ _ _ => by omega) (xa_subR rfl xa_sub0))))))) ?_
                  exact ih (w + 1) (xa_w32 (v + e)) (xa_w32 (t + 1)) (xa_up M1 63 w (M1 61 w)) (by omega) (by omega) (fun q j hn hq => by
                    rw [xa_up_ne (fun e => hq e.1)]
                    exact hs q j hn hq) (fun x x0 x1 => by
                    by_cases e : x = w
                    · subst e
                      simp [xa_up]
                      omega
                    · simp [xa_up, e]
                      exact ht x x0 x1) (by rw [hv9]; exact sv_fs) (by omega) (sv_ts hT (sv_p3 (by omega) (by omega))) (sv_tn h1 hN) (by omega)
              · intro (c18 : a = 1)
                refine And.intro ?_ ?_
                · intro (c22 : ¬ a = 3)
                  refine And.intro (show 0 ≤ w ∧ w < 14 by omega) ?_
                  refine And.intro (show 0 ≤ w ∧ w < 14 by omega) ?_
                  show xa_C xm_I A h0 _ 32 [(0, 0, 0, 400, M1 62 w), (0, 0, (-32768), 32767, xa_i16 v)] M1 _
                  refine ct_min (-32768) 400 (by decide) (by decide) (by decide) (fun r23 br23 er23 => ?_)
                  show xa_C xm_I A h0 _ 35 [(0, 0, 0, 400, M1 61 w), (0, 0, (-32768), 400, r23)] M1 _
                  refine ct_max 0 400 (by decide) (by decide) (by decide) (fun r24 br24 er24 => ?_)
                  refine And.intro (show 0 ≤ w ∧ w < 14 by omega) ?_
                  show Q 43 [(7, (0, 0, 1, 15, w + 1)), (5, (0, 0, (-2147483648), 2147483647, xa_w32 (t + 1))), (6, (0, 0, (-2147483648), 2147483647, xa_w32 (v + e))), (8, (0, 0, (-32768), 32767, xa_i16 v)), (4, (0, 0, (-2147483648), 2147483647, e)), (2, (0, 0, (-2147483648), 14, b)), (1, (0, 0, 0, 3, a)), (0, (2, 60, 0, 0, 0))] [] (xa_up M1 63 w r24)
                  refine hgo.2.1 43 _ [(7, (0, 0, 0, 14, w + 1)), (6, (0, 0, (-2147483648), 2147483647, xa_w32 (v + e))), (5, (0, 0, (-2147483648), 2147483647, xa_w32 (t + 1))), (4, (0, 0, (-2147483648), 2147483647, e)), (2, (0, 0, (-2147483648), 14, b)), (1, (0, 0, 0, 3, a)), (0, (2, 60, 0, 0, 0))] _ _ (xa_subI rfl rfl (fun _ _ _ _ => by omega) (xa_subI rfl rfl (fun _ _ _ _ => by omega) (xa_subI rfl rfl (fun _ _ _ _ => by omega) (xa_subI rfl rfl (fun _ _ _ _ => by omega) (xa_subI rfl rfl (fun _ _ _ _ => by omega) (xa_subI rfl rfl (fun _ _ _ _ => by omega) (xa_subR rfl xa_sub0))))))) ?_
                  exact ih (w + 1) (xa_w32 (v + e)) (xa_w32 (t + 1)) (xa_up M1 63 w r24) (by omega) (by omega) (fun q j hn hq => by
                    rw [xa_up_ne (fun e => hq e.1)]
                    exact hs q j hn hq) (fun x x0 x1 => by
                    by_cases e : x = w
                    · subst e
                      simp [xa_up]
                      omega
                    · simp [xa_up, e]
                      exact ht x x0 x1) (by rw [hv9]; exact sv_fs) (by omega) (sv_ts hT (sv_pc (kv := xa_i16 v) (q := r23) (by omega) hv9 (by unfold sv_k; rw [if_neg (by omega), if_pos (by omega)]) (by omega) (by omega))) (sv_tn h1 hN) (by omega)
                · intro (c22 : a = 3)
                  refine And.intro (show 0 ≤ w ∧ w < 14 by omega) ?_
                  refine And.intro (show 0 ≤ w ∧ w < 14 by omega) ?_
                  show Q 43 [(7, (0, 0, 1, 15, w + 1)), (5, (0, 0, (-2147483648), 2147483647, xa_w32 (t + 1))), (6, (0, 0, (-2147483648), 2147483647, xa_w32 (v + e))), (8, (0, 0, (-32768), 32767, xa_i16 v)), (4, (0, 0, (-2147483648), 2147483647, e)), (2, (0, 0, (-2147483648), 14, b)), (1, (0, 0, 0, 3, a)), (0, (2, 60, 0, 0, 0))] [] (xa_up M1 63 w (M1 61 w))
                  refine hgo.2.1 43 _ [(7, (0, 0, 0, 14, w + 1)), (6, (0, 0, (-2147483648), 2147483647, xa_w32 (v + e))), (5, (0, 0, (-2147483648), 2147483647, xa_w32 (t + 1))), (4, (0, 0, (-2147483648), 2147483647, e)), (2, (0, 0, (-2147483648), 14, b)), (1, (0, 0, 0, 3, a)), (0, (2, 60, 0, 0, 0))] _ _ (xa_subI rfl rfl (fun _ _ _ _ => by omega) (xa_subI rfl rfl (fun _ _ _ _ => by omega) (xa_subI rfl rfl (fun _ _ _ _ => by omega) (xa_subI rfl rfl (fun _ _ _ _ => by omega) (xa_subI rfl rfl (fun _ _ _ _ => by omega) (xa_subI rfl rfl (fun _ _ _ _ => by omega) (xa_subR rfl xa_sub0))))))) ?_
                  exact ih (w + 1) (xa_w32 (v + e)) (xa_w32 (t + 1)) (xa_up M1 63 w (M1 61 w)) (by omega) (by omega) (fun q j hn hq => by
                    rw [xa_up_ne (fun e => hq e.1)]
                    exact hs q j hn hq) (fun x x0 x1 => by
                    by_cases e : x = w
                    · subst e
                      simp [xa_up]
                      omega
                    · simp [xa_up, e]
                      exact ht x x0 x1) (by rw [hv9]; exact sv_fs) (by omega) (sv_ts hT (sv_p3 (by omega) (by omega))) (sv_tn h1 hN) (by omega)
            · intro (c17 : a = 0)
              refine And.intro ?_ ?_
              · intro (c25 : ¬ a = 3)
                refine And.intro (show 0 ≤ w ∧ w < 14 by omega) ?_
                refine And.intro (show 0 ≤ w ∧ w < 14 by omega) ?_
                show xa_C xm_I A h0 _ 32 [(0, 0, 0, 400, M1 62 w), (0, 0, (-128), 127, xa_i8 v)] M1 _
                refine ct_min (-128) 127 (by decide) (by decide) (by decide) (fun r26 br26 er26 => ?_)
                show xa_C xm_I A h0 _ 35 [(0, 0, 0, 400, M1 61 w), (0, 0, (-128), 127, r26)] M1 _
                refine ct_max 0 400 (by decide) (by decide) (by decide) (fun r27 br27 er27 => ?_)
                refine And.intro (show 0 ≤ w ∧ w < 14 by omega) ?_
                show Q 43 [(7, (0, 0, 1, 15, w + 1)), (5, (0, 0, (-2147483648), 2147483647, xa_w32 (t + 1))), (6, (0, 0, (-2147483648), 2147483647, xa_w32 (v + e))), (8, (0, 0, (-128), 127, xa_i8 v)), (4, (0, 0, (-2147483648), 2147483647, e)), (2, (0, 0, (-2147483648), 14, b)), (1, (0, 0, 0, 3, a)), (0, (2, 60, 0, 0, 0))] [] (xa_up M1 63 w r27)
                refine hgo.2.1 43 _ [(7, (0, 0, 0, 14, w + 1)), (6, (0, 0, (-2147483648), 2147483647, xa_w32 (v + e))), (5, (0, 0, (-2147483648), 2147483647, xa_w32 (t + 1))), (4, (0, 0, (-2147483648), 2147483647, e)), (2, (0, 0, (-2147483648), 14, b)), (1, (0, 0, 0, 3, a)), (0, (2, 60, 0, 0, 0))] _ _ (xa_subI rfl rfl (fun _ _ _ _ => by omega) (xa_subI rfl rfl (fun _ _ _ _ => by omega) (xa_subI rfl rfl (fun _ _ _ _ => by omega) (xa_subI rfl rfl (fun _ _ _ _ => by omega) (xa_subI rfl rfl (fun _ _ _ _ => by omega) (xa_subI rfl rfl (fun _ _ _ _ => by omega) (xa_subR rfl xa_sub0))))))) ?_
                exact ih (w + 1) (xa_w32 (v + e)) (xa_w32 (t + 1)) (xa_up M1 63 w r27) (by omega) (by omega) (fun q j hn hq => by
                  rw [xa_up_ne (fun e => hq e.1)]
                  exact hs q j hn hq) (fun x x0 x1 => by
                  by_cases e : x = w
                  · subst e
                    simp [xa_up]
                    omega
                  · simp [xa_up, e]
                    exact ht x x0 x1) (by rw [hv9]; exact sv_fs) (by omega) (sv_ts hT (sv_pc (kv := xa_i8 v) (q := r26) (by omega) hv9 (by unfold sv_k; rw [if_pos (by omega)]) (by omega) (by omega))) (sv_tn h1 hN) (by omega)
              · intro (c25 : a = 3)
                refine And.intro (show 0 ≤ w ∧ w < 14 by omega) ?_
                refine And.intro (show 0 ≤ w ∧ w < 14 by omega) ?_
                show Q 43 [(7, (0, 0, 1, 15, w + 1)), (5, (0, 0, (-2147483648), 2147483647, xa_w32 (t + 1))), (6, (0, 0, (-2147483648), 2147483647, xa_w32 (v + e))), (8, (0, 0, (-128), 127, xa_i8 v)), (4, (0, 0, (-2147483648), 2147483647, e)), (2, (0, 0, (-2147483648), 14, b)), (1, (0, 0, 0, 3, a)), (0, (2, 60, 0, 0, 0))] [] (xa_up M1 63 w (M1 61 w))
                refine hgo.2.1 43 _ [(7, (0, 0, 0, 14, w + 1)), (6, (0, 0, (-2147483648), 2147483647, xa_w32 (v + e))), (5, (0, 0, (-2147483648), 2147483647, xa_w32 (t + 1))), (4, (0, 0, (-2147483648), 2147483647, e)), (2, (0, 0, (-2147483648), 14, b)), (1, (0, 0, 0, 3, a)), (0, (2, 60, 0, 0, 0))] _ _ (xa_subI rfl rfl (fun _ _ _ _ => by omega) (xa_subI rfl rfl (fun _ _ _ _ => by omega) (xa_subI rfl rfl (fun _ _ _ _ => by omega) (xa_subI rfl rfl (fun _ _ _ _ => by omega) (xa_subI rfl rfl (fun _ _ _ _ => by omega) (xa_subI rfl rfl (fun _ _ _ _ => by omega) (xa_subR rfl xa_sub0))))))) ?_
                exact ih (w + 1) (xa_w32 (v + e)) (xa_w32 (t + 1)) (xa_up M1 63 w (M1 61 w)) (by omega) (by omega) (fun q j hn hq => by
                  rw [xa_up_ne (fun e => hq e.1)]
                  exact hs q j hn hq) (fun x x0 x1 => by
                  by_cases e : x = w
                  · subst e
                    simp [xa_up]
                    omega
                  · simp [xa_up, e]
                    exact ht x x0 x1) (by rw [hv9]; exact sv_fs) (by omega) (sv_ts hT (sv_p3 (by omega) (by omega))) (sv_tn h1 hN) (by omega)
  refine hgo.1 27 [43] 0 _ _ _ ?_
  show xa_C xm_I A h0 _ 214 [(0, 0, (-2147483648), 2147483647, a), (0, 0, 0, 0, 0), (0, 0, 3, 3, 3)] (xa_up M 60 21 0) _
  refine ct_in ?_ ?_
  · intro (i1 : 0 ≤ a ∧ a ≤ 3)
    refine And.intro ?_ ?_
    · intro (c2 : b ≤ 14)
      refine And.intro ?_ ?_
      · intro (c3 : 3 ≤ a)
        show Q 43 [(7, (0, 0, 0, 0, 0)), (6, (0, 0, (-2147483648), 2147483647, c)), (5, (0, 0, 0, 0, 0)), (0, (2, 60, 0, 0, 0)), (1, (0, 0, (-2147483648), 2147483647, a)), (2, (0, 0, (-2147483648), 2147483647, b)), (3, (0, 0, (-2147483648), 2147483647, c)), (4, (0, 0, (-2147483648), 2147483647, e))] [] (xa_up M 60 21 0)
        refine hgo.2.1 43 _ [(7, (0, 0, 0, 14, 0)), (6, (0, 0, (-2147483648), 2147483647, c)), (5, (0, 0, (-2147483648), 2147483647, 0)), (4, (0, 0, (-2147483648), 2147483647, e)), (2, (0, 0, (-2147483648), 14, b)), (1, (0, 0, 0, 3, a)), (0, (2, 60, 0, 0, 0))] _ _ (xa_subI rfl rfl (fun _ _ _ _ => by omega) (xa_subI rfl rfl (fun _ _ _ _ => by omega) (xa_subI rfl rfl (fun _ _ _ _ => by omega) (xa_subI rfl rfl (fun _ _ _ _ => by omega) (xa_subI rfl rfl (fun _ _ _ _ => by omega) (xa_subI rfl rfl (fun _ _ _ _ => by omega) (xa_subR rfl xa_sub0))))))) ?_
        exact loop (by unfold sv_ok; omega) 15 0 c 0 (xa_up M 60 21 0) (by omega) (by omega) (fun q j hn hq => by rw [xa_up_ne (fun e => hn (by omega))]) (fun x x0 x1 => by simp [xa_up]; exact (hI.1 x x0 x1).2.2) (sv_f0 vc.1 vc.2).symm (by omega) (fun x x0 x1 => by omega) (fun x _ => xa_up_ne (by omega)) (by omega)
      · intro (c3 : a < 3)
        refine And.intro ?_ ?_
        · intro (c4 : 0 ≤ b)
          show Q 43 [(7, (0, 0, 0, 0, 0)), (6, (0, 0, (-2147483648), 2147483647, c)), (5, (0, 0, 0, 0, 0)), (0, (2, 60, 0, 0, 0)), (1, (0, 0, (-2147483648), 2147483647, a)), (2, (0, 0, (-2147483648), 2147483647, b)), (3, (0, 0, (-2147483648), 2147483647, c)), (4, (0, 0, (-2147483648), 2147483647, e))] [] (xa_up M 60 21 0)
          refine hgo.2.1 43 _ [(7, (0, 0, 0, 14, 0)), (6, (0, 0, (-2147483648), 2147483647, c)), (5, (0, 0, (-2147483648), 2147483647, 0)), (4, (0, 0, (-2147483648), 2147483647, e)), (2, (0, 0, (-2147483648), 14, b)), (1, (0, 0, 0, 3, a)), (0, (2, 60, 0, 0, 0))] _ _ (xa_subI rfl rfl (fun _ _ _ _ => by omega) (xa_subI rfl rfl (fun _ _ _ _ => by omega) (xa_subI rfl rfl (fun _ _ _ _ => by omega) (xa_subI rfl rfl (fun _ _ _ _ => by omega) (xa_subI rfl rfl (fun _ _ _ _ => by omega) (xa_subI rfl rfl (fun _ _ _ _ => by omega) (xa_subR rfl xa_sub0))))))) ?_
          exact loop (by unfold sv_ok; omega) 15 0 c 0 (xa_up M 60 21 0) (by omega) (by omega) (fun q j hn hq => by rw [xa_up_ne (fun e => hn (by omega))]) (fun x x0 x1 => by simp [xa_up]; exact (hI.1 x x0 x1).2.2) (sv_f0 vc.1 vc.2).symm (by omega) (fun x x0 x1 => by omega) (fun x _ => xa_up_ne (by omega)) (by omega)
        · intro (c4 : b < 0)
          show post (some (0, 0, (-2), (-2), (-2))) (xa_up M 60 21 0)
          exact k _ _ ⟨_, _, _, rfl⟩ (fun q j hn _ => xm_cor_f (by omega) xm_cor_r q j hn) (Or.inr ⟨by unfold sv_ok; omega, fun i => xa_up_ne (by omega)⟩) (xm_Inv_cor (xm_cor_f (by omega) xm_cor_r) hI)
    · intro (c2 : 14 < b)
      show post (some (0, 0, (-1), (-1), (-1))) (xa_up M 60 21 0)
      exact k _ _ ⟨_, _, _, rfl⟩ (fun q j hn _ => xm_cor_f (by omega) xm_cor_r q j hn) (Or.inr ⟨by unfold sv_ok; omega, fun i => xa_up_ne (by omega)⟩) (xm_Inv_cor (xm_cor_f (by omega) xm_cor_r) hI)
  · intro (i1 : ¬ (0 ≤ a ∧ a ≤ 3))
    show post (some (0, 0, (-1), (-1), (-1))) (xa_up M 60 21 0)
    exact k _ _ ⟨_, _, _, rfl⟩ (fun q j hn _ => xm_cor_f (by omega) xm_cor_r q j hn) (Or.inr ⟨by unfold sv_ok; omega, fun i => xa_up_ne (by omega)⟩) (xm_Inv_cor (xm_cor_f (by omega) xm_cor_r) hI)
