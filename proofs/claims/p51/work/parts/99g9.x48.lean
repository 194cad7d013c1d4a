-- unlike (made by wip/u/mkun.py)
set_option maxRecDepth 20000
section UN
variable {CALL : Nat → List Value → g_H → Nat → Nat → (Option Value → g_H → Prop) → Prop} {o nL : Nat} {ini : Bool} {bc bs : Nat} {cc : ByteArray} {P : g_S → Prop} {pc : Nat} {Ls : g_L} {rest : List Value} {w : g_W} {ins : Instr}
theorem ir_ib (hcl : ∀ S, g_pre CALL o nL ini bc bs cc P S → P S) (hd : decode cc pc = .ok (ins, 1)) {f : Int32 → Int32 → Int32} {x y : Int32} (hl : g_ib ins = some f) (k : P (pc + 1, Ls, .int (f x y) :: rest, w)) : P (pc, Ls, .int y :: .int x :: rest, w) := hcl _ ⟨ins, 1, hd, Or.inr (Or.inl (Or.inl ⟨f, x, y, rest, hl, rfl, rfl, k⟩))⟩
theorem ir_i2l (hcl : ∀ S, g_pre CALL o nL ini bc bs cc P S → P S) (hd : decode cc pc = .ok (ins, 1)) {x : Int32} (hl : ins = .i2l) (k : P (pc + 1, Ls, .long x.toInt64 :: rest, w)) : P (pc, Ls, .int x :: rest, w) := hcl _ ⟨ins, 1, hd, Or.inr (Or.inl (Or.inr (Or.inr (Or.inr (Or.inr (Or.inr (Or.inr (Or.inr (Or.inl ⟨x, rest, hl, rfl, rfl, k⟩)))))))))⟩
theorem ir_u0 (hcl : ∀ S, g_pre CALL o nL ini bc bs cc P S → P S) (hd : decode cc pc = .ok (ins, 3)) {off : Int} (tgt : Nat) (hl : ins = .ifnull off) (ho : (pc : Int) + off = ((tgt : Nat) : Int)) (k : P (tgt, Ls, rest, w)) : P (pc, Ls, .null :: rest, w) := hcl _ ⟨ins, 3, hd, Or.inr (Or.inr (Or.inl (Or.inr (Or.inr (Or.inr (Or.inl ⟨off, tgt, 0, rest, hl, rfl, ho, Or.inl ⟨rfl, k⟩⟩))))))⟩
theorem ir_u1 (hcl : ∀ S, g_pre CALL o nL ini bc bs cc P S → P S) (hd : decode cc pc = .ok (ins, 3)) {off : Int} (tgt : Nat) {a : Nat} (hl : ins = .ifnull off) (ho : (pc : Int) + off = ((tgt : Nat) : Int)) (k : P (pc + 3, Ls, rest, w)) : P (pc, Ls, .ref a :: rest, w) := hcl _ ⟨ins, 3, hd, Or.inr (Or.inr (Or.inl (Or.inr (Or.inr (Or.inr (Or.inl ⟨off, tgt, a, rest, hl, rfl, ho, Or.inr ⟨rfl, k⟩⟩))))))⟩
end UN
theorem un_ge {x y : Int32} : g_c2 x y .ge = decide (y.toInt ≤ x.toInt) := by
  show decide (y ≤ x) = _
  exact decide_eq_decide.mpr Int32.le_iff_toInt_le
theorem un_ne {x y : Int32} : g_c2 x y .ne = decide (¬ x.toInt = y.toInt) := by
  show decide (¬ x = y) = _
  exact decide_eq_decide.mpr (not_congr Int32.toInt_inj.symm)
theorem un_g14 {i : Nat} (h : i ≤ 1000) : g_c2 (Int32.ofInt (i : Int)) (Int8.ofInt 14).toInt32 .ge = decide (14 ≤ i) := by
  have e := iv_i32ge h (n := 14) (by decide)
  exact e
theorem un_n {v : Value} {x : Int32} (h : v = .int x) : iv_n v = x.toInt := by
  rw [h]
  rfl
/-- a wheel of two builds is unlike -/
def un_P (n n' : Int) (T X D T' X' D' : Int → Int) (x : Int) : Prop := ¬ (x < n ↔ x < n') ∨ (x < n ∧ x < n' ∧ ¬ (T x = T' x ∧ X x = X' x ∧ D x = D' x))
theorem un_at {d q a n : Nat} {h : g_H} {f : Nat → Value} {i : Nat} (hq : h[q]? = some (a, true, 0, n, f)) (hi : i < n) (hn : n ≤ 1000) : g_run (d + 1) 23 [.ref a, .int (Int32.ofInt (i : Int))] h 0 0 (fun r h' => h' = h ∧ r = some (.int (g_i (f i)))) := by
  obtain ⟨q1, q2, q3, q4, q5⟩ := s_mi_ok 23 (2, 1, false, 0, 0, 11) (by decide +kernel)
  obtain ⟨c1, c2⟩ := s_codes_ok 23 (2, 1, false, 0, 0, 11) (by decide +kernel)
  rw [show s_codes.getD 23 [] = s_c_23 from rfl] at c1 c2
  have q3 : g_rt 23 = some .int := q3
  refine ⟨q1, by rw [q2]; exact (show 2 ≤ 2 by decide), ?_⟩
  rw [q5, q2, q4]
  intro P hend hcl
  show P (0, [(0, .ref a), (1, .int (Int32.ofInt (i : Int)))], [], 0, 0, h)
  have m0 : ((0 : Nat), Value.ref a) ∈ ([(0, .ref a), (1, .int (Int32.ofInt (i : Int)))] : g_L) := List.mem_cons_self
  have m1 : ((1 : Nat), Value.int (Int32.ofInt (i : Int))) ∈ ([(0, .ref a), (1, .int (Int32.ofInt (i : Int)))] : g_L) := List.mem_cons_of_mem _ List.mem_cons_self
  refine ir_ld hcl (iv_dec (c2 _ (iv_in (c := []) (pc := 0) rfl)) (by decide) (by decide)) rfl m1 rfl ?_
  refine ir_if hcl (iv_dec (c2 _ (iv_in (c := []) (pc := 1) rfl)) (by decide) (by decide)) 16 rfl rfl ?_
  rw [if_neg (by rw [iv_c1lt, decide_eq_true_eq, iv_i32 (by omega)]; omega)]
  refine ir_ld hcl (iv_dec (c2 _ (iv_in (c := []) (pc := 4) rfl)) (by decide) (by decide)) rfl m1 rfl ?_
  refine ir_ld hcl (iv_dec (c2 _ (iv_in (c := []) (pc := 5) rfl)) (by decide) (by decide)) rfl m0 rfl ?_
  refine ir_al hcl (iv_dec (c2 _ (iv_in (c := []) (pc := 6) rfl)) (by decide) (by decide)) (q := q) rfl (by decide) hq ?_
  refine ir_ic hcl (iv_dec (c2 _ (iv_in (c := []) (pc := 7) rfl)) (by decide) (by decide)) 16 rfl rfl ?_
  rw [if_neg (by rw [iv_i32ge (by omega) hn, decide_eq_true_eq]; omega)]
  refine ir_ld hcl (iv_dec (c2 _ (iv_in (c := []) (pc := 10) rfl)) (by decide) (by decide)) rfl m0 rfl ?_
  refine ir_ld hcl (iv_dec (c2 _ (iv_in (c := []) (pc := 11) rfl)) (by decide) (by decide)) rfl m1 rfl ?_
  refine ir_ia hcl (iv_dec (c2 _ (iv_in (c := []) (pc := 12) rfl)) (by decide) (by decide)) (q := q) rfl hq (iv_vp (by rw [iv_i32 (by omega)]; omega) (by rw [iv_i32 (by omega)]; omega)) ?_
  rw [iv_i32n (by omega)]
  refine ir_go hcl (iv_dec (c2 _ (iv_in (c := []) (pc := 13) rfl)) (by decide) (by decide)) 17 rfl rfl ?_
  exact hend _ ⟨Nat.le_refl _, Nat.le_refl _, Or.inl ⟨_, .int, iv_ireturn (c2 _ (iv_in (c := []) (pc := 17) rfl)), q3, rfl, rfl, rfl, rfl⟩⟩
theorem un_acc28 {d p a : Nat} {h : g_H} {ad : Nat → Nat} {f : Nat → Value} {F : Nat → Nat → Value} {i : Nat} (hb : iv_bd h p a ad f F) (hi : i < 14) : g_run (d + 2) 28 [.ref a, .int (Int32.ofInt (i : Int))] h 0 0 (fun r h' => h' = h ∧ r = some (.int (g_i (F 2 i)))) := by
  obtain ⟨q1, q2, q3, q4, q5⟩ := s_mi_ok 28 (2, 1, false, 0, 0, 1) (by decide +kernel)
  obtain ⟨c1, c2⟩ := s_codes_ok 28 (2, 1, false, 0, 0, 1) (by decide +kernel)
  rw [show s_codes.getD 28 [] = s_c_28 from rfl] at c1 c2
  have q3 : g_rt 28 = some .int := q3
  refine ⟨q1, by rw [q2]; exact (show 2 ≤ 2 by decide), ?_⟩
  rw [q5, q2, q4]
  intro P hend hcl
  show P (0, [(0, .ref a), (1, .int (Int32.ofInt (i : Int)))], [], 0, 0, h)
  have m0 : ((0 : Nat), Value.ref a) ∈ ([(0, .ref a), (1, .int (Int32.ofInt (i : Int)))] : g_L) := List.mem_cons_self
  have m1 : ((1 : Nat), Value.int (Int32.ofInt (i : Int))) ∈ ([(0, .ref a), (1, .int (Int32.ofInt (i : Int)))] : g_L) := List.mem_cons_of_mem _ List.mem_cons_self
  refine ir_ld hcl (iv_dec (c2 _ (iv_in (c := []) (pc := 0) rfl)) (by decide) (by decide)) rfl m0 rfl ?_
  refine iv_getfield hcl (c2 _ (iv_in (c := []) (pc := 1) rfl)) (Or.inl rfl) (q := p) (n := 11) (f := f) hb.1 (by decide) ?_
  rw [(hb.2 2 (by decide)).1]
  refine ir_ld hcl (iv_dec (c2 _ (iv_in (c := []) (pc := 4) rfl)) (by decide) (by decide)) rfl m1 rfl ?_
  refine iv_static5 (as := [.ref (ad 2), .int (Int32.ofInt (i : Int))]) (rest := []) hcl (c2 _ (iv_in (c := []) (pc := 5) rfl)) rfl (by decide) (mc := 0) (ms := 0) (by decide) (by decide) (g_run_mono (un_at (d := d) (hb.2 2 (by decide)).2 (show i < iv_ln 2 from hi) (by decide)) (fun r h1 hq => ?_))
  obtain ⟨e1, e2⟩ := hq
  rw [e1, e2]
  show P (8, [(0, .ref a), (1, .int (Int32.ofInt (i : Int)))], [.int (g_i (F 2 i))], 0, 0, h)
  exact hend _ ⟨Nat.le_refl _, Nat.le_refl _, Or.inl ⟨_, .int, iv_ireturn (c2 _ (iv_in (c := []) (pc := 8) rfl)), q3, rfl, rfl, rfl, rfl⟩⟩
theorem un_acc37 {d p a : Nat} {h : g_H} {ad : Nat → Nat} {f : Nat → Value} {F : Nat → Nat → Value} {i : Nat} (hb : iv_bd h p a ad f F) (hi : i < 14) : g_run (d + 2) 37 [.ref a, .int (Int32.ofInt (i : Int))] h 0 0 (fun r h' => h' = h ∧ r = some (.int (g_i (F 3 i)))) := by
  obtain ⟨q1, q2, q3, q4, q5⟩ := s_mi_ok 37 (2, 1, false, 0, 0, 1) (by decide +kernel)
  obtain ⟨c1, c2⟩ := s_codes_ok 37 (2, 1, false, 0, 0, 1) (by decide +kernel)
  rw [show s_codes.getD 37 [] = s_c_37 from rfl] at c1 c2
  have q3 : g_rt 37 = some .int := q3
  refine ⟨q1, by rw [q2]; exact (show 2 ≤ 2 by decide), ?_⟩
  rw [q5, q2, q4]
  intro P hend hcl
  show P (0, [(0, .ref a), (1, .int (Int32.ofInt (i : Int)))], [], 0, 0, h)
  have m0 : ((0 : Nat), Value.ref a) ∈ ([(0, .ref a), (1, .int (Int32.ofInt (i : Int)))] : g_L) := List.mem_cons_self
  have m1 : ((1 : Nat), Value.int (Int32.ofInt (i : Int))) ∈ ([(0, .ref a), (1, .int (Int32.ofInt (i : Int)))] : g_L) := List.mem_cons_of_mem _ List.mem_cons_self
  refine ir_ld hcl (iv_dec (c2 _ (iv_in (c := []) (pc := 0) rfl)) (by decide) (by decide)) rfl m0 rfl ?_
  refine iv_getfield hcl (c2 _ (iv_in (c := []) (pc := 1) rfl)) (Or.inl rfl) (q := p) (n := 11) (f := f) hb.1 (by decide) ?_
  rw [(hb.2 3 (by decide)).1]
  refine ir_ld hcl (iv_dec (c2 _ (iv_in (c := []) (pc := 4) rfl)) (by decide) (by decide)) rfl m1 rfl ?_
  refine iv_static5 (as := [.ref (ad 3), .int (Int32.ofInt (i : Int))]) (rest := []) hcl (c2 _ (iv_in (c := []) (pc := 5) rfl)) rfl (by decide) (mc := 0) (ms := 0) (by decide) (by decide) (g_run_mono (un_at (d := d) (hb.2 3 (by decide)).2 (show i < iv_ln 3 from hi) (by decide)) (fun r h1 hq => ?_))
  obtain ⟨e1, e2⟩ := hq
  rw [e1, e2]
  show P (8, [(0, .ref a), (1, .int (Int32.ofInt (i : Int)))], [.int (g_i (F 3 i))], 0, 0, h)
  exact hend _ ⟨Nat.le_refl _, Nat.le_refl _, Or.inl ⟨_, .int, iv_ireturn (c2 _ (iv_in (c := []) (pc := 8) rfl)), q3, rfl, rfl, rfl, rfl⟩⟩
theorem un_acc142 {d p a : Nat} {h : g_H} {ad : Nat → Nat} {f : Nat → Value} {F : Nat → Nat → Value} {i : Nat} (hb : iv_bd h p a ad f F) (hi : i < 14) : g_run (d + 2) 142 [.ref a, .int (Int32.ofInt (i : Int))] h 0 0 (fun r h' => h' = h ∧ r = some (.int (g_i (F 4 i)))) := by
  obtain ⟨q1, q2, q3, q4, q5⟩ := s_mi_ok 142 (2, 1, false, 0, 0, 1) (by decide +kernel)
  obtain ⟨c1, c2⟩ := s_codes_ok 142 (2, 1, false, 0, 0, 1) (by decide +kernel)
  rw [show s_codes.getD 142 [] = s_c_142 from rfl] at c1 c2
  have q3 : g_rt 142 = some .int := q3
  refine ⟨q1, by rw [q2]; exact (show 2 ≤ 2 by decide), ?_⟩
  rw [q5, q2, q4]
  intro P hend hcl
  show P (0, [(0, .ref a), (1, .int (Int32.ofInt (i : Int)))], [], 0, 0, h)
  have m0 : ((0 : Nat), Value.ref a) ∈ ([(0, .ref a), (1, .int (Int32.ofInt (i : Int)))] : g_L) := List.mem_cons_self
  have m1 : ((1 : Nat), Value.int (Int32.ofInt (i : Int))) ∈ ([(0, .ref a), (1, .int (Int32.ofInt (i : Int)))] : g_L) := List.mem_cons_of_mem _ List.mem_cons_self
  refine ir_ld hcl (iv_dec (c2 _ (iv_in (c := []) (pc := 0) rfl)) (by decide) (by decide)) rfl m0 rfl ?_
  refine iv_getfield hcl (c2 _ (iv_in (c := []) (pc := 1) rfl)) (Or.inl rfl) (q := p) (n := 11) (f := f) hb.1 (by decide) ?_
  rw [(hb.2 4 (by decide)).1]
  refine ir_ld hcl (iv_dec (c2 _ (iv_in (c := []) (pc := 4) rfl)) (by decide) (by decide)) rfl m1 rfl ?_
  refine iv_static5 (as := [.ref (ad 4), .int (Int32.ofInt (i : Int))]) (rest := []) hcl (c2 _ (iv_in (c := []) (pc := 5) rfl)) rfl (by decide) (mc := 0) (ms := 0) (by decide) (by decide) (g_run_mono (un_at (d := d) (hb.2 4 (by decide)).2 (show i < iv_ln 4 from hi) (by decide)) (fun r h1 hq => ?_))
  obtain ⟨e1, e2⟩ := hq
  rw [e1, e2]
  show P (8, [(0, .ref a), (1, .int (Int32.ofInt (i : Int)))], [.int (g_i (F 4 i))], 0, 0, h)
  exact hend _ ⟨Nat.le_refl _, Nat.le_refl _, Or.inl ⟨_, .int, iv_ireturn (c2 _ (iv_in (c := []) (pc := 8) rfl)), q3, rfl, rfl, rfl, rfl⟩⟩
theorem un_hw {d p a : Nat} {h : g_H} {f : Nat → Value} {n : Int32} {i : Nat} (hp : h[p]? = some (a, false, 1, 11, f)) (e9 : f 9 = .int n) (hi : i ≤ 1000) : g_run (d + 1) 20 [.ref a, .int (Int32.ofInt (i : Int))] h 0 0 (fun r h' => h' = h ∧ r = some (.int (if (i : Int) < n.toInt then 1 else 0))) := by
  obtain ⟨q1, q2, q3, q4, q5⟩ := s_mi_ok 20 (2, 2, false, 0, 0, 1) (by decide +kernel)
  obtain ⟨c1, c2⟩ := s_codes_ok 20 (2, 2, false, 0, 0, 1) (by decide +kernel)
  rw [show s_codes.getD 20 [] = s_c_20 from rfl] at c1 c2
  have q3 : g_rt 20 = some .boolean := q3
  refine ⟨q1, by rw [q2]; exact (show 2 ≤ 2 by decide), ?_⟩
  rw [q5, q2, q4]
  intro P hend hcl
  show P (0, [(0, .ref a), (1, .int (Int32.ofInt (i : Int)))], [], 0, 0, h)
  have m0 : ((0 : Nat), Value.ref a) ∈ ([(0, .ref a), (1, .int (Int32.ofInt (i : Int)))] : g_L) := List.mem_cons_self
  have m1 : ((1 : Nat), Value.int (Int32.ofInt (i : Int))) ∈ ([(0, .ref a), (1, .int (Int32.ofInt (i : Int)))] : g_L) := List.mem_cons_of_mem _ List.mem_cons_self
  have no : ¬ (i : Int) < n.toInt → P (16, [(0, .ref a), (1, .int (Int32.ofInt (i : Int)))], [], 0, 0, h) := fun hc => by
    refine ir_co hcl (iv_dec (c2 _ (iv_in (c := []) (pc := 16) rfl)) (by decide) (by decide)) rfl ?_
    exact hend _ ⟨Nat.le_refl _, Nat.le_refl _, Or.inl ⟨0, .boolean, iv_ireturn (c2 _ (iv_in (c := []) (pc := 17) rfl)), q3, rfl, rfl, rfl, by rw [if_neg hc]⟩⟩
  refine ir_ld hcl (iv_dec (c2 _ (iv_in (c := []) (pc := 0) rfl)) (by decide) (by decide)) rfl m1 rfl ?_
  refine ir_if hcl (iv_dec (c2 _ (iv_in (c := []) (pc := 1) rfl)) (by decide) (by decide)) 16 rfl rfl ?_
  rw [if_neg (by rw [iv_c1lt, decide_eq_true_eq, iv_i32 hi]; omega)]
  refine ir_ld hcl (iv_dec (c2 _ (iv_in (c := []) (pc := 4) rfl)) (by decide) (by decide)) rfl m1 rfl ?_
  refine ir_ld hcl (iv_dec (c2 _ (iv_in (c := []) (pc := 5) rfl)) (by decide) (by decide)) rfl m0 rfl ?_
  refine iv_getfield hcl (c2 _ (iv_in (c := []) (pc := 6) rfl)) (Or.inl rfl) (q := p) (n := 11) (f := f) hp (by decide) ?_
  rw [e9]
  refine ir_ic hcl (iv_dec (c2 _ (iv_in (c := []) (pc := 9) rfl)) (by decide) (by decide)) 16 rfl rfl ?_
  by_cases c : n.toInt ≤ (i : Int)
  · rw [if_pos (by rw [un_ge, iv_i32 hi]; exact decide_eq_true c)]
    exact no (by omega)
  · rw [if_neg (by rw [un_ge, iv_i32 hi, decide_eq_true_eq]; exact c)]
    refine ir_co hcl (iv_dec (c2 _ (iv_in (c := []) (pc := 12) rfl)) (by decide) (by decide)) rfl ?_
    refine ir_go hcl (iv_dec (c2 _ (iv_in (c := []) (pc := 13) rfl)) (by decide) (by decide)) 17 rfl rfl ?_
    exact hend _ ⟨Nat.le_refl _, Nat.le_refl _, Or.inl ⟨1, .boolean, iv_ireturn (c2 _ (iv_in (c := []) (pc := 17) rfl)), q3, rfl, rfl, rfl, by rw [if_pos (by omega)]⟩⟩
theorem un_unl {d p a p' a' : Nat} {h : g_H} {ad ad' : Nat → Nat} {f f' : Nat → Value} {F F' : Nat → Nat → Value} {n n' : Int32} (hb : iv_bd h p a ad f F) (hb' : iv_bd h p' a' ad' f' F') (e9 : f 9 = .int n) (e9' : f' 9 = .int n') (hi : iv_bi f F) (hi' : iv_bi f' F') : g_run (d + 3) 206 [.ref a, .ref a'] h 0 0 (fun r h' => h' = h ∧ ∃ v : Int32, r = some (.int v) ∧ v.toInt = br_b (un_P n.toInt n'.toInt (fun x => iv_n (F 2 x.toNat)) (fun x => iv_n (F 3 x.toNat)) (fun x => iv_n (F 4 x.toNat)) (fun x => iv_n (F' 2 x.toNat)) (fun x => iv_n (F' 3 x.toNat)) (fun x => iv_n (F' 4 x.toNat))) 14) := by
  obtain ⟨q1, q2, q3, q4, q5⟩ := s_mi_ok 206 (5, 1, false, 0, 0, 1) (by decide +kernel)
  obtain ⟨c1, c2⟩ := s_codes_ok 206 (5, 1, false, 0, 0, 1) (by decide +kernel)
  rw [show s_codes.getD 206 [] = s_c_206 from rfl] at c1 c2
  have q3 : g_rt 206 = some .int := q3
  refine ⟨q1, by rw [q2]; exact (show 2 ≤ 5 by decide), ?_⟩
  rw [q5, q2, q4]
  intro P hend hcl
  show P (0, [(0, .ref a), (1, .ref a')], [], 0, 0, h)
  have t20 : (g_me 20).2.1 = 1 := (s_mi_ok 20 _ (show s_mi[20]? = some (2, 2, false, 0, 0, 1) by decide +kernel)).2.2.2.2
  have t28 : (g_me 28).2.1 = 1 := (s_mi_ok 28 _ (show s_mi[28]? = some (2, 1, false, 0, 0, 1) by decide +kernel)).2.2.2.2
  have t37 : (g_me 37).2.1 = 1 := (s_mi_ok 37 _ (show s_mi[37]? = some (2, 1, false, 0, 0, 1) by decide +kernel)).2.2.2.2
  have t142 : (g_me 142).2.1 = 1 := (s_mi_ok 142 _ (show s_mi[142]? = some (2, 1, false, 0, 0, 1) by decide +kernel)).2.2.2.2
  have loop : ∀ (k i : Nat) (B : Int32) (Ls : g_L), i + k = 14 → (0, Value.ref a) ∈ Ls → (1, Value.ref a') ∈ Ls → (2, Value.int B) ∈ Ls → (3, Value.int (Int32.ofInt (i : Int))) ∈ Ls → B.toInt = br_b (un_P n.toInt n'.toInt (fun x => iv_n (F 2 x.toNat)) (fun x => iv_n (F 3 x.toNat)) (fun x => iv_n (F 4 x.toNat)) (fun x => iv_n (F' 2 x.toNat)) (fun x => iv_n (F' 3 x.toNat)) (fun x => iv_n (F' 4 x.toNat))) i → P (4, Ls, [], 0, 0, h) := by
    intro k
    induction k with
    | zero =>
      intro i B Ls hk m0 m1 m2 m3 hB
      refine ir_ld hcl (iv_dec (c2 _ (iv_in (c := []) (pc := 4) rfl)) (by decide) (by decide)) rfl m3 rfl ?_
      refine ir_co hcl (iv_dec (c2 _ (iv_in (c := []) (pc := 5) rfl)) (by decide) (by decide)) rfl ?_
      refine ir_ic hcl (iv_dec (c2 _ (iv_in (c := []) (pc := 7) rfl)) (by decide) (by decide)) 110 rfl rfl ?_
      rw [if_pos (by rw [un_g14 (by omega)]; exact decide_eq_true (by omega))]
      refine ir_ld hcl (iv_dec (c2 _ (iv_in (c := []) (pc := 110) rfl)) (by decide) (by decide)) rfl m2 rfl ?_
      have ei : i = 14 := by omega
      rw [ei] at hB
      exact hend _ ⟨Nat.le_refl _, Nat.le_refl _, Or.inl ⟨B, .int, iv_ireturn (c2 _ (iv_in (c := []) (pc := 111) rfl)), q3, rfl, rfl, rfl, B, rfl, hB⟩⟩
    | succ k ih =>
      intro i B Ls hk m0 m1 m2 m3 hB
      have fin : ∀ (al : Int32) (Ls : g_L), (al = 0 ∨ al = 1) → (0, Value.ref a) ∈ Ls → (1, Value.ref a') ∈ Ls → (2, Value.int B) ∈ Ls → (3, Value.int (Int32.ofInt (i : Int))) ∈ Ls → (4, Value.int al) ∈ Ls → (al = 0 ↔ (un_P n.toInt n'.toInt (fun x => iv_n (F 2 x.toNat)) (fun x => iv_n (F 3 x.toNat)) (fun x => iv_n (F 4 x.toNat)) (fun x => iv_n (F' 2 x.toNat)) (fun x => iv_n (F' 3 x.toNat)) (fun x => iv_n (F' 4 x.toNat))) (i : Int)) → P (89, Ls, [], 0, 0, h) := by
        intro al Ls h01 m0 m1 m2 m3 m4 hal
        refine ir_ld hcl (iv_dec (c2 _ (iv_in (c := []) (pc := 89) rfl)) (by decide) (by decide)) rfl m2 rfl ?_
        refine ir_ld hcl (iv_dec (c2 _ (iv_in (c := []) (pc := 90) rfl)) (by decide) (by decide)) rfl m4 rfl ?_
        refine ir_if hcl (iv_dec (c2 _ (iv_in (c := []) (pc := 92) rfl)) (by decide) (by decide)) 99 rfl rfl ?_
        by_cases c : al = 0
        · rw [if_pos (show g_c1 al .eq = true from decide_eq_true c)]
          refine ir_co hcl (iv_dec (c2 _ (iv_in (c := []) (pc := 99) rfl)) (by decide) (by decide)) rfl ?_
          refine ir_ld hcl (iv_dec (c2 _ (iv_in (c := []) (pc := 100) rfl)) (by decide) (by decide)) rfl m3 rfl ?_
          refine ir_ib hcl (iv_dec (c2 _ (iv_in (c := []) (pc := 101) rfl)) (by decide) (by decide)) rfl ?_
          refine ir_ib hcl (iv_dec (c2 _ (iv_in (c := []) (pc := 102) rfl)) (by decide) (by decide)) rfl ?_
          have n0 : ((0 : Nat), Value.ref a) ∈ g_st1 2 (.int (B ||| Int32.ofInt 1 <<< (Int32.ofInt (i : Int) &&& 31))) Ls := iv_st2c m0 (by decide) rfl
          have n1 : ((1 : Nat), Value.ref a') ∈ g_st1 2 (.int (B ||| Int32.ofInt 1 <<< (Int32.ofInt (i : Int) &&& 31))) Ls := iv_st2c m1 (by decide) rfl
          have n3 : ((3 : Nat), Value.int (Int32.ofInt (i : Int))) ∈ g_st1 2 (.int (B ||| Int32.ofInt 1 <<< (Int32.ofInt (i : Int) &&& 31))) Ls := iv_st2c m3 (by decide) rfl
          refine ir_st hcl (iv_dec (c2 _ (iv_in (c := []) (pc := 103) rfl)) (by decide) (by decide)) rfl rfl (by decide) ?_
          refine ir_ii hcl (iv_dec (c2 _ (iv_in (c := []) (pc := 104) rfl)) (by decide) (by decide)) rfl n3 (by decide) ?_
          rw [iv_i32s (by omega)]
          refine ir_go hcl (iv_dec (c2 _ (iv_in (c := []) (pc := 107) rfl)) (by decide) (by decide)) 4 rfl rfl ?_
          exact ih (i + 1) ((B ||| Int32.ofInt 1 <<< (Int32.ofInt (i : Int) &&& 31))) _ (by omega) (iv_st2c n0 (by decide) rfl) (iv_st2c n1 (by decide) rfl) (iv_st2c List.mem_cons_self (by decide) rfl) List.mem_cons_self (by rw [br_b1 (hal.mp c), ← hB]; show _ = (Int32.ofInt B.toInt ||| Int32.ofInt (Int32.ofInt 1 <<< (Int32.ofInt (i : Int) &&& 31)).toInt).toInt; rw [Int32.ofInt_toInt, Int32.ofInt_toInt])
        · rw [if_neg (show ¬ g_c1 al .eq = true from fun e => c (of_decide_eq_true e))]
          refine ir_co hcl (iv_dec (c2 _ (iv_in (c := []) (pc := 95) rfl)) (by decide) (by decide)) rfl ?_
          refine ir_go hcl (iv_dec (c2 _ (iv_in (c := []) (pc := 96) rfl)) (by decide) (by decide)) 102 rfl rfl ?_
          refine ir_ib hcl (iv_dec (c2 _ (iv_in (c := []) (pc := 102) rfl)) (by decide) (by decide)) rfl ?_
          have n0 : ((0 : Nat), Value.ref a) ∈ g_st1 2 (.int (B ||| 0)) Ls := iv_st2c m0 (by decide) rfl
          have n1 : ((1 : Nat), Value.ref a') ∈ g_st1 2 (.int (B ||| 0)) Ls := iv_st2c m1 (by decide) rfl
          have n3 : ((3 : Nat), Value.int (Int32.ofInt (i : Int))) ∈ g_st1 2 (.int (B ||| 0)) Ls := iv_st2c m3 (by decide) rfl
          refine ir_st hcl (iv_dec (c2 _ (iv_in (c := []) (pc := 103) rfl)) (by decide) (by decide)) rfl rfl (by decide) ?_
          refine ir_ii hcl (iv_dec (c2 _ (iv_in (c := []) (pc := 104) rfl)) (by decide) (by decide)) rfl n3 (by decide) ?_
          rw [iv_i32s (by omega)]
          refine ir_go hcl (iv_dec (c2 _ (iv_in (c := []) (pc := 107) rfl)) (by decide) (by decide)) 4 rfl rfl ?_
          exact ih (i + 1) ((B ||| 0)) _ (by omega) (iv_st2c n0 (by decide) rfl) (iv_st2c n1 (by decide) rfl) (iv_st2c List.mem_cons_self (by decide) rfl) List.mem_cons_self (by rw [br_b0 (fun e => c (hal.mpr e)), ← hB]; exact congrArg Int32.toInt (Int32.or_zero))
      refine ir_ld hcl (iv_dec (c2 _ (iv_in (c := []) (pc := 4) rfl)) (by decide) (by decide)) rfl m3 rfl ?_
      refine ir_co hcl (iv_dec (c2 _ (iv_in (c := []) (pc := 5) rfl)) (by decide) (by decide)) rfl ?_
      refine ir_ic hcl (iv_dec (c2 _ (iv_in (c := []) (pc := 7) rfl)) (by decide) (by decide)) 110 rfl rfl ?_
      rw [if_neg (by rw [un_g14 (by omega), decide_eq_true_eq]; omega)]
      refine ir_ld hcl (iv_dec (c2 _ (iv_in (c := []) (pc := 10) rfl)) (by decide) (by decide)) rfl m0 rfl ?_
      refine ir_ld hcl (iv_dec (c2 _ (iv_in (c := []) (pc := 11) rfl)) (by decide) (by decide)) rfl m3 rfl ?_
      refine iv_virt (as := [.int (Int32.ofInt (i : Int))]) (rest := []) hcl (c2 _ (iv_in (c := []) (pc := 12) rfl)) (q := p) (by rw [t20]; exact hb.1) rfl (show g_sum [] ≤ 8 by first | decide | exact (show (1 : Nat) ≤ 8 by decide)) (mc := 0) (ms := 0) (by decide) (by decide) (g_run_mono (un_hw (d := d + 1) hb.1 e9 (by omega)) (fun r h1 hq => ?_))
      obtain ⟨e1, e2⟩ := hq
      rw [e1, e2]
      clear e1 e2 r h1
      show P (15, _, [.int (if (i : Int) < n.toInt then 1 else 0)], 0, 0, h)
      refine ir_ld hcl (iv_dec (c2 _ (iv_in (c := []) (pc := 15) rfl)) (by decide) (by decide)) rfl m1 rfl ?_
      refine ir_ld hcl (iv_dec (c2 _ (iv_in (c := []) (pc := 16) rfl)) (by decide) (by decide)) rfl m3 rfl ?_
      refine iv_virt (as := [.int (Int32.ofInt (i : Int))]) (rest := [.int (if (i : Int) < n.toInt then 1 else 0)]) hcl (c2 _ (iv_in (c := []) (pc := 17) rfl)) (q := p') (by rw [t20]; exact hb'.1) rfl (show g_sum [.int (if (i : Int) < n.toInt then 1 else 0)] ≤ 8 by first | decide | exact (show (1 : Nat) ≤ 8 by decide)) (mc := 0) (ms := 0) (by decide) (by decide) (g_run_mono (un_hw (d := d + 1) hb'.1 e9' (by omega)) (fun r h1 hq => ?_))
      obtain ⟨e1, e2⟩ := hq
      rw [e1, e2]
      clear e1 e2 r h1
      show P (20, _, [.int (if (i : Int) < n'.toInt then 1 else 0), .int (if (i : Int) < n.toInt then 1 else 0)], 0, 0, h)
      refine ir_ic hcl (iv_dec (c2 _ (iv_in (c := []) (pc := 20) rfl)) (by decide) (by decide)) 27 rfl rfl ?_
      by_cases c1 : (i : Int) < n.toInt
      · rw [if_pos c1]
        by_cases c2' : (i : Int) < n'.toInt
        · rw [if_pos c2']
          rw [if_neg (by rw [un_ne]; exact fun e => absurd (of_decide_eq_true e) (by decide))]
          refine ir_co hcl (iv_dec (c2 _ (iv_in (c := []) (pc := 23) rfl)) (by decide) (by decide)) rfl ?_
          refine ir_go hcl (iv_dec (c2 _ (iv_in (c := []) (pc := 24) rfl)) (by decide) (by decide)) 28 rfl rfl ?_
          refine ir_st hcl (iv_dec (c2 _ (iv_in (c := []) (pc := 28) rfl)) (by decide) (by decide)) rfl rfl (by decide) ?_
          have m0' : ((0 : Nat), Value.ref a) ∈ g_st1 4 (.int (Int32.ofInt 1)) Ls := iv_st2c m0 (by decide) rfl
          have m1' : ((1 : Nat), Value.ref a') ∈ g_st1 4 (.int (Int32.ofInt 1)) Ls := iv_st2c m1 (by decide) rfl
          have m2' : ((2 : Nat), Value.int B) ∈ g_st1 4 (.int (Int32.ofInt 1)) Ls := iv_st2c m2 (by decide) rfl
          have m3' : ((3 : Nat), Value.int (Int32.ofInt (i : Int))) ∈ g_st1 4 (.int (Int32.ofInt 1)) Ls := iv_st2c m3 (by decide) rfl
          refine ir_ld hcl (iv_dec (c2 _ (iv_in (c := []) (pc := 30) rfl)) (by decide) (by decide)) rfl List.mem_cons_self rfl ?_
          refine ir_if hcl (iv_dec (c2 _ (iv_in (c := []) (pc := 32) rfl)) (by decide) (by decide)) 89 rfl rfl ?_
          rw [if_neg (show ¬ g_c1 (Int32.ofInt 1) .eq = true by decide)]
          refine ir_ld hcl (iv_dec (c2 _ (iv_in (c := []) (pc := 35) rfl)) (by decide) (by decide)) rfl m0' rfl ?_
          refine ir_ld hcl (iv_dec (c2 _ (iv_in (c := []) (pc := 36) rfl)) (by decide) (by decide)) rfl m3' rfl ?_
          refine iv_virt (as := [.int (Int32.ofInt (i : Int))]) (rest := []) hcl (c2 _ (iv_in (c := []) (pc := 37) rfl)) (q := p) (by rw [t20]; exact hb.1) rfl (show g_sum [] ≤ 8 by first | decide | exact (show (1 : Nat) ≤ 8 by decide)) (mc := 0) (ms := 0) (by decide) (by decide) (g_run_mono (un_hw (d := d + 1) hb.1 e9 (by omega)) (fun r h1 hq => ?_))
          obtain ⟨e1, e2⟩ := hq
          rw [e1, e2]
          clear e1 e2 r h1
          show P (40, _, [.int (if (i : Int) < n.toInt then 1 else 0)], 0, 0, h)
          refine ir_if hcl (iv_dec (c2 _ (iv_in (c := []) (pc := 40) rfl)) (by decide) (by decide)) 89 rfl rfl ?_
          rw [if_pos c1]
          rw [if_neg (show ¬ g_c1 1 .eq = true by decide)]
          have tn : ((i : Int)).toNat = i := by omega
          obtain ⟨u2, eu2⟩ := hi.2.2 2 i (by decide) (show i < iv_ln 2 from (by omega : i < 14))
          obtain ⟨w2, ew2⟩ := hi'.2.2 2 i (by decide) (show i < iv_ln 2 from (by omega : i < 14))
          obtain ⟨u3, eu3⟩ := hi.2.2 3 i (by decide) (show i < iv_ln 3 from (by omega : i < 14))
          obtain ⟨w3, ew3⟩ := hi'.2.2 3 i (by decide) (show i < iv_ln 3 from (by omega : i < 14))
          obtain ⟨u4, eu4⟩ := hi.2.2 4 i (by decide) (show i < iv_ln 4 from (by omega : i < 14))
          obtain ⟨w4, ew4⟩ := hi'.2.2 4 i (by decide) (show i < iv_ln 4 from (by omega : i < 14))
          have un9 : (un_P n.toInt n'.toInt (fun x => iv_n (F 2 x.toNat)) (fun x => iv_n (F 3 x.toNat)) (fun x => iv_n (F 4 x.toNat)) (fun x => iv_n (F' 2 x.toNat)) (fun x => iv_n (F' 3 x.toNat)) (fun x => iv_n (F' 4 x.toNat))) (i : Int) ↔ ¬ (u2.toInt = w2.toInt ∧ u3.toInt = w3.toInt ∧ u4.toInt = w4.toInt) := by
            unfold un_P
            simp only [tn, un_n eu2, un_n eu3, un_n eu4, un_n ew2, un_n ew3, un_n ew4]
            exact ⟨fun e => by
              rcases e with e | e
              · exact absurd ⟨fun _ => c2', fun _ => c1⟩ e
              · exact e.2.2, fun e => Or.inr ⟨c1, c2', e⟩⟩
          have no86 : (un_P n.toInt n'.toInt (fun x => iv_n (F 2 x.toNat)) (fun x => iv_n (F 3 x.toNat)) (fun x => iv_n (F 4 x.toNat)) (fun x => iv_n (F' 2 x.toNat)) (fun x => iv_n (F' 3 x.toNat)) (fun x => iv_n (F' 4 x.toNat))) (i : Int) → P (86, g_st1 4 (.int (Int32.ofInt 1)) Ls, [], 0, 0, h) := fun hu => by
            refine ir_co hcl (iv_dec (c2 _ (iv_in (c := []) (pc := 86) rfl)) (by decide) (by decide)) rfl ?_
            refine ir_st hcl (iv_dec (c2 _ (iv_in (c := []) (pc := 87) rfl)) (by decide) (by decide)) rfl rfl (by decide) ?_
            exact fin (Int32.ofInt 0) _ (Or.inl rfl) (iv_st2c m0' (by decide) rfl) (iv_st2c m1' (by decide) rfl) (iv_st2c m2' (by decide) rfl) (iv_st2c m3' (by decide) rfl) List.mem_cons_self ⟨fun _ => hu, fun _ => rfl⟩
          refine ir_ld hcl (iv_dec (c2 _ (iv_in (c := []) (pc := 43) rfl)) (by decide) (by decide)) rfl m0' rfl ?_
          refine ir_ld hcl (iv_dec (c2 _ (iv_in (c := []) (pc := 44) rfl)) (by decide) (by decide)) rfl m3' rfl ?_
          refine iv_virt (as := [.int (Int32.ofInt (i : Int))]) (rest := []) hcl (c2 _ (iv_in (c := []) (pc := 45) rfl)) (q := p) (by rw [t28]; exact hb.1) rfl (show g_sum [] ≤ 8 by first | decide | exact (show (1 : Nat) ≤ 8 by decide)) (mc := 0) (ms := 0) (by decide) (by decide) (g_run_mono (un_acc28 (d := d) hb (by omega)) (fun r h1 hq => ?_))
          obtain ⟨e1, e2⟩ := hq
          rw [e1, e2]
          clear e1 e2 r h1
          show P (48, _, [.int (g_i (F 2 i))], 0, 0, h)
          refine ir_ld hcl (iv_dec (c2 _ (iv_in (c := []) (pc := 48) rfl)) (by decide) (by decide)) rfl m1' rfl ?_
          refine ir_ld hcl (iv_dec (c2 _ (iv_in (c := []) (pc := 49) rfl)) (by decide) (by decide)) rfl m3' rfl ?_
          refine iv_virt (as := [.int (Int32.ofInt (i : Int))]) (rest := [.int (g_i (F 2 i))]) hcl (c2 _ (iv_in (c := []) (pc := 50) rfl)) (q := p') (by rw [t28]; exact hb'.1) rfl (show g_sum [.int (g_i (F 2 i))] ≤ 8 by first | decide | exact (show (1 : Nat) ≤ 8 by decide)) (mc := 0) (ms := 0) (by decide) (by decide) (g_run_mono (un_acc28 (d := d) hb' (by omega)) (fun r h1 hq => ?_))
          obtain ⟨e1, e2⟩ := hq
          rw [e1, e2]
          clear e1 e2 r h1
          show P (53, _, [.int (g_i (F' 2 i)), .int (g_i (F 2 i))], 0, 0, h)
          rw [show g_i (F 2 i) = u2 by rw [eu2]; rfl, show g_i (F' 2 i) = w2 by rw [ew2]; rfl]
          refine ir_ic hcl (iv_dec (c2 _ (iv_in (c := []) (pc := 53) rfl)) (by decide) (by decide)) 86 rfl rfl ?_
          by_cases d2 : u2.toInt = w2.toInt
          · rw [if_neg (by rw [un_ne]; exact fun e => of_decide_eq_true e d2)]
            refine ir_ld hcl (iv_dec (c2 _ (iv_in (c := []) (pc := 56) rfl)) (by decide) (by decide)) rfl m0' rfl ?_
            refine ir_ld hcl (iv_dec (c2 _ (iv_in (c := []) (pc := 57) rfl)) (by decide) (by decide)) rfl m3' rfl ?_
            refine iv_virt (as := [.int (Int32.ofInt (i : Int))]) (rest := []) hcl (c2 _ (iv_in (c := []) (pc := 58) rfl)) (q := p) (by rw [t37]; exact hb.1) rfl (show g_sum [] ≤ 8 by first | decide | exact (show (1 : Nat) ≤ 8 by decide)) (mc := 0) (ms := 0) (by decide) (by decide) (g_run_mono (un_acc37 (d := d) hb (by omega)) (fun r h1 hq => ?_))
            obtain ⟨e1, e2⟩ := hq
            rw [e1, e2]
            clear e1 e2 r h1
            show P (61, _, [.int (g_i (F 3 i))], 0, 0, h)
            refine ir_ld hcl (iv_dec (c2 _ (iv_in (c := []) (pc := 61) rfl)) (by decide) (by decide)) rfl m1' rfl ?_
            refine ir_ld hcl (iv_dec (c2 _ (iv_in (c := []) (pc := 62) rfl)) (by decide) (by decide)) rfl m3' rfl ?_
            refine iv_virt (as := [.int (Int32.ofInt (i : Int))]) (rest := [.int (g_i (F 3 i))]) hcl (c2 _ (iv_in (c := []) (pc := 63) rfl)) (q := p') (by rw [t37]; exact hb'.1) rfl (show g_sum [.int (g_i (F 3 i))] ≤ 8 by first | decide | exact (show (1 : Nat) ≤ 8 by decide)) (mc := 0) (ms := 0) (by decide) (by decide) (g_run_mono (un_acc37 (d := d) hb' (by omega)) (fun r h1 hq => ?_))
            obtain ⟨e1, e2⟩ := hq
            rw [e1, e2]
            clear e1 e2 r h1
            show P (66, _, [.int (g_i (F' 3 i)), .int (g_i (F 3 i))], 0, 0, h)
            rw [show g_i (F 3 i) = u3 by rw [eu3]; rfl, show g_i (F' 3 i) = w3 by rw [ew3]; rfl]
            refine ir_ic hcl (iv_dec (c2 _ (iv_in (c := []) (pc := 66) rfl)) (by decide) (by decide)) 86 rfl rfl ?_
            by_cases d3 : u3.toInt = w3.toInt
            · rw [if_neg (by rw [un_ne]; exact fun e => of_decide_eq_true e d3)]
              refine ir_ld hcl (iv_dec (c2 _ (iv_in (c := []) (pc := 69) rfl)) (by decide) (by decide)) rfl m0' rfl ?_
              refine ir_ld hcl (iv_dec (c2 _ (iv_in (c := []) (pc := 70) rfl)) (by decide) (by decide)) rfl m3' rfl ?_
              refine iv_virt (as := [.int (Int32.ofInt (i : Int))]) (rest := []) hcl (c2 _ (iv_in (c := []) (pc := 71) rfl)) (q := p) (by rw [t142]; exact hb.1) rfl (show g_sum [] ≤ 8 by first | decide | exact (show (1 : Nat) ≤ 8 by decide)) (mc := 0) (ms := 0) (by decide) (by decide) (g_run_mono (un_acc142 (d := d) hb (by omega)) (fun r h1 hq => ?_))
              obtain ⟨e1, e2⟩ := hq
              rw [e1, e2]
              clear e1 e2 r h1
              show P (74, _, [.int (g_i (F 4 i))], 0, 0, h)
              refine ir_ld hcl (iv_dec (c2 _ (iv_in (c := []) (pc := 74) rfl)) (by decide) (by decide)) rfl m1' rfl ?_
              refine ir_ld hcl (iv_dec (c2 _ (iv_in (c := []) (pc := 75) rfl)) (by decide) (by decide)) rfl m3' rfl ?_
              refine iv_virt (as := [.int (Int32.ofInt (i : Int))]) (rest := [.int (g_i (F 4 i))]) hcl (c2 _ (iv_in (c := []) (pc := 76) rfl)) (q := p') (by rw [t142]; exact hb'.1) rfl (show g_sum [.int (g_i (F 4 i))] ≤ 8 by first | decide | exact (show (1 : Nat) ≤ 8 by decide)) (mc := 0) (ms := 0) (by decide) (by decide) (g_run_mono (un_acc142 (d := d) hb' (by omega)) (fun r h1 hq => ?_))
              obtain ⟨e1, e2⟩ := hq
              rw [e1, e2]
              clear e1 e2 r h1
              show P (79, _, [.int (g_i (F' 4 i)), .int (g_i (F 4 i))], 0, 0, h)
              rw [show g_i (F 4 i) = u4 by rw [eu4]; rfl, show g_i (F' 4 i) = w4 by rw [ew4]; rfl]
              refine ir_ic hcl (iv_dec (c2 _ (iv_in (c := []) (pc := 79) rfl)) (by decide) (by decide)) 86 rfl rfl ?_
              by_cases d4 : u4.toInt = w4.toInt
              · rw [if_neg (by rw [un_ne]; exact fun e => of_decide_eq_true e d4)]
                refine ir_co hcl (iv_dec (c2 _ (iv_in (c := []) (pc := 82) rfl)) (by decide) (by decide)) rfl ?_
                refine ir_go hcl (iv_dec (c2 _ (iv_in (c := []) (pc := 83) rfl)) (by decide) (by decide)) 87 rfl rfl ?_
                refine ir_st hcl (iv_dec (c2 _ (iv_in (c := []) (pc := 87) rfl)) (by decide) (by decide)) rfl rfl (by decide) ?_
                exact fin (Int32.ofInt 1) _ (Or.inr rfl) (iv_st2c m0' (by decide) rfl) (iv_st2c m1' (by decide) rfl) (iv_st2c m2' (by decide) rfl) (iv_st2c m3' (by decide) rfl) List.mem_cons_self ⟨fun e => absurd e (by decide), fun e => absurd ⟨d2, d3, d4⟩ (un9.mp e)⟩
              · rw [if_pos (by rw [un_ne]; exact decide_eq_true d4)]
                exact no86 (un9.mpr (fun e => d4 e.2.2))
            · rw [if_pos (by rw [un_ne]; exact decide_eq_true d3)]
              exact no86 (un9.mpr (fun e => d3 e.2.1))
          · rw [if_pos (by rw [un_ne]; exact decide_eq_true d2)]
            exact no86 (un9.mpr (fun e => d2 e.1))
        · rw [if_neg c2']
          rw [if_pos (by rw [un_ne]; exact decide_eq_true (by decide))]
          refine ir_co hcl (iv_dec (c2 _ (iv_in (c := []) (pc := 27) rfl)) (by decide) (by decide)) rfl ?_
          refine ir_st hcl (iv_dec (c2 _ (iv_in (c := []) (pc := 28) rfl)) (by decide) (by decide)) rfl rfl (by decide) ?_
          have m0' : ((0 : Nat), Value.ref a) ∈ g_st1 4 (.int (Int32.ofInt 0)) Ls := iv_st2c m0 (by decide) rfl
          have m1' : ((1 : Nat), Value.ref a') ∈ g_st1 4 (.int (Int32.ofInt 0)) Ls := iv_st2c m1 (by decide) rfl
          have m2' : ((2 : Nat), Value.int B) ∈ g_st1 4 (.int (Int32.ofInt 0)) Ls := iv_st2c m2 (by decide) rfl
          have m3' : ((3 : Nat), Value.int (Int32.ofInt (i : Int))) ∈ g_st1 4 (.int (Int32.ofInt 0)) Ls := iv_st2c m3 (by decide) rfl
          refine ir_ld hcl (iv_dec (c2 _ (iv_in (c := []) (pc := 30) rfl)) (by decide) (by decide)) rfl List.mem_cons_self rfl ?_
          refine ir_if hcl (iv_dec (c2 _ (iv_in (c := []) (pc := 32) rfl)) (by decide) (by decide)) 89 rfl rfl ?_
          rw [if_pos (show g_c1 (Int32.ofInt 0) .eq = true from rfl)]
          exact fin (Int32.ofInt 0) _ (Or.inl rfl) m0' m1' m2' m3' List.mem_cons_self ⟨fun _ => Or.inl (by omega), fun _ => rfl⟩
      · rw [if_neg c1]
        by_cases c2' : (i : Int) < n'.toInt
        · rw [if_pos c2']
          rw [if_pos (by rw [un_ne]; exact decide_eq_true (by decide))]
          refine ir_co hcl (iv_dec (c2 _ (iv_in (c := []) (pc := 27) rfl)) (by decide) (by decide)) rfl ?_
          refine ir_st hcl (iv_dec (c2 _ (iv_in (c := []) (pc := 28) rfl)) (by decide) (by decide)) rfl rfl (by decide) ?_
          have m0' : ((0 : Nat), Value.ref a) ∈ g_st1 4 (.int (Int32.ofInt 0)) Ls := iv_st2c m0 (by decide) rfl
          have m1' : ((1 : Nat), Value.ref a') ∈ g_st1 4 (.int (Int32.ofInt 0)) Ls := iv_st2c m1 (by decide) rfl
          have m2' : ((2 : Nat), Value.int B) ∈ g_st1 4 (.int (Int32.ofInt 0)) Ls := iv_st2c m2 (by decide) rfl
          have m3' : ((3 : Nat), Value.int (Int32.ofInt (i : Int))) ∈ g_st1 4 (.int (Int32.ofInt 0)) Ls := iv_st2c m3 (by decide) rfl
          refine ir_ld hcl (iv_dec (c2 _ (iv_in (c := []) (pc := 30) rfl)) (by decide) (by decide)) rfl List.mem_cons_self rfl ?_
          refine ir_if hcl (iv_dec (c2 _ (iv_in (c := []) (pc := 32) rfl)) (by decide) (by decide)) 89 rfl rfl ?_
          rw [if_pos (show g_c1 (Int32.ofInt 0) .eq = true from rfl)]
          exact fin (Int32.ofInt 0) _ (Or.inl rfl) m0' m1' m2' m3' List.mem_cons_self ⟨fun _ => Or.inl (by omega), fun _ => rfl⟩
        · rw [if_neg c2']
          rw [if_neg (by rw [un_ne]; exact fun e => absurd (of_decide_eq_true e) (by decide))]
          refine ir_co hcl (iv_dec (c2 _ (iv_in (c := []) (pc := 23) rfl)) (by decide) (by decide)) rfl ?_
          refine ir_go hcl (iv_dec (c2 _ (iv_in (c := []) (pc := 24) rfl)) (by decide) (by decide)) 28 rfl rfl ?_
          refine ir_st hcl (iv_dec (c2 _ (iv_in (c := []) (pc := 28) rfl)) (by decide) (by decide)) rfl rfl (by decide) ?_
          have m0' : ((0 : Nat), Value.ref a) ∈ g_st1 4 (.int (Int32.ofInt 1)) Ls := iv_st2c m0 (by decide) rfl
          have m1' : ((1 : Nat), Value.ref a') ∈ g_st1 4 (.int (Int32.ofInt 1)) Ls := iv_st2c m1 (by decide) rfl
          have m2' : ((2 : Nat), Value.int B) ∈ g_st1 4 (.int (Int32.ofInt 1)) Ls := iv_st2c m2 (by decide) rfl
          have m3' : ((3 : Nat), Value.int (Int32.ofInt (i : Int))) ∈ g_st1 4 (.int (Int32.ofInt 1)) Ls := iv_st2c m3 (by decide) rfl
          refine ir_ld hcl (iv_dec (c2 _ (iv_in (c := []) (pc := 30) rfl)) (by decide) (by decide)) rfl List.mem_cons_self rfl ?_
          refine ir_if hcl (iv_dec (c2 _ (iv_in (c := []) (pc := 32) rfl)) (by decide) (by decide)) 89 rfl rfl ?_
          rw [if_neg (show ¬ g_c1 (Int32.ofInt 1) .eq = true by decide)]
          refine ir_ld hcl (iv_dec (c2 _ (iv_in (c := []) (pc := 35) rfl)) (by decide) (by decide)) rfl m0' rfl ?_
          refine ir_ld hcl (iv_dec (c2 _ (iv_in (c := []) (pc := 36) rfl)) (by decide) (by decide)) rfl m3' rfl ?_
          refine iv_virt (as := [.int (Int32.ofInt (i : Int))]) (rest := []) hcl (c2 _ (iv_in (c := []) (pc := 37) rfl)) (q := p) (by rw [t20]; exact hb.1) rfl (show g_sum [] ≤ 8 by first | decide | exact (show (1 : Nat) ≤ 8 by decide)) (mc := 0) (ms := 0) (by decide) (by decide) (g_run_mono (un_hw (d := d + 1) hb.1 e9 (by omega)) (fun r h1 hq => ?_))
          obtain ⟨e1, e2⟩ := hq
          rw [e1, e2]
          clear e1 e2 r h1
          show P (40, _, [.int (if (i : Int) < n.toInt then 1 else 0)], 0, 0, h)
          refine ir_if hcl (iv_dec (c2 _ (iv_in (c := []) (pc := 40) rfl)) (by decide) (by decide)) 89 rfl rfl ?_
          rw [if_neg c1]
          rw [if_pos (show g_c1 0 .eq = true from rfl)]
          exact fin (Int32.ofInt 1) _ (Or.inr rfl) m0' m1' m2' m3' List.mem_cons_self ⟨fun e => absurd e (by decide), fun e => by
            rcases e with e | e
            · omega
            · omega⟩
  refine ir_co hcl (iv_dec (c2 _ (iv_in (c := []) (pc := 0) rfl)) (by decide) (by decide)) rfl ?_
  refine ir_st hcl (iv_dec (c2 _ (iv_in (c := []) (pc := 1) rfl)) (by decide) (by decide)) rfl rfl (by decide) ?_
  refine ir_co hcl (iv_dec (c2 _ (iv_in (c := []) (pc := 2) rfl)) (by decide) (by decide)) rfl ?_
  refine ir_st hcl (iv_dec (c2 _ (iv_in (c := []) (pc := 3) rfl)) (by decide) (by decide)) rfl rfl (by decide) ?_
  have m0 : ((0 : Nat), Value.ref a) ∈ ([(0, .ref a), (1, .ref a')] : g_L) := List.mem_cons_self
  have m1 : ((1 : Nat), Value.ref a') ∈ ([(0, .ref a), (1, .ref a')] : g_L) := List.mem_cons_of_mem _ List.mem_cons_self
  exact loop 14 0 0 _ rfl (iv_st2c (iv_st2c m0 (by decide) rfl) (by decide) rfl) (iv_st2c (iv_st2c m1 (by decide) rfl) (by decide) rfl) (iv_st2c List.mem_cons_self (by decide) rfl) List.mem_cons_self rfl
/-- the answer of unlike, by the kept rows -/
def un_A (K : xa_M) (a b v : Int) : Prop := ((0 ≤ a ∧ a < 4) ∧ (0 ≤ b ∧ b < 4) ∧ ¬ K 105 a = 0 ∧ ¬ K 105 b = 0 ∧ v = xa_bc (br_b (un_P (K 104 (124 * a)) (K 104 (124 * b)) (fun x => K 104 (124 * a + 1 + 5 * x + 2)) (fun x => K 104 (124 * a + 1 + 5 * x + 3)) (fun x => K 104 (124 * a + 1 + 5 * x + 4)) (fun x => K 104 (124 * b + 1 + 5 * x + 2)) (fun x => K 104 (124 * b + 1 + 5 * x + 3)) (fun x => K 104 (124 * b + 1 + 5 * x + 4))) 14)) ∨ (¬ ((0 ≤ a ∧ a < 4) ∧ (0 ≤ b ∧ b < 4) ∧ ¬ K 105 a = 0 ∧ ¬ K 105 b = 0) ∧ v = -1)
theorem un_A1 {K K' : xa_M} {a b v v' : Int} (e4 : ∀ x, 0 ≤ x → x < 496 → K 104 x = K' 104 x) (e5 : ∀ x, 0 ≤ x → x < 4 → K 105 x = K' 105 x) (h : un_A K a b v) (h' : un_A K' a b v') : v = v' := by
  by_cases c : (0 ≤ a ∧ a < 4) ∧ (0 ≤ b ∧ b < 4)
  · have ea := e5 a c.1.1 c.1.2
    have eb := e5 b c.2.1 c.2.2
    rcases h with ⟨_, _, h1, h2, h3⟩ | ⟨h1, h2⟩
    · rcases h' with ⟨_, _, _, _, h4⟩ | ⟨h4, _⟩
      · rw [h3, h4]
        refine congrArg xa_bc (br_b_e _ (fun k hk => ?_))
        unfold un_P
        dsimp only
        rw [e4 _ (by omega) (by omega), e4 (124 * b) (by omega) (by omega), e4 (124 * a + 1 + 5 * (k : Int) + 2) (by omega) (by omega), e4 (124 * a + 1 + 5 * (k : Int) + 3) (by omega) (by omega), e4 (124 * a + 1 + 5 * (k : Int) + 4) (by omega) (by omega), e4 (124 * b + 1 + 5 * (k : Int) + 2) (by omega) (by omega), e4 (124 * b + 1 + 5 * (k : Int) + 3) (by omega) (by omega), e4 (124 * b + 1 + 5 * (k : Int) + 4) (by omega) (by omega)]
      · exact absurd ⟨c.1, c.2, by rw [← ea]; exact h1, by rw [← eb]; exact h2⟩ h4
    · rcases h' with ⟨_, _, h3, h4, _⟩ | ⟨_, h4⟩
      · exact absurd ⟨c.1, c.2, by rw [ea]; exact h3, by rw [eb]; exact h4⟩ h1
      · exact h2.trans h4.symm
  · rcases h with ⟨h1, h2, _⟩ | ⟨_, h2⟩
    · exact absurd ⟨h1, h2⟩ c
    · rcases h' with ⟨h3, h4, _⟩ | ⟨_, h4⟩
      · exact absurd ⟨h3, h4⟩ c
      · exact h2.trans h4.symm
