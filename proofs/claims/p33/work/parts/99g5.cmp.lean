-- uneven: both answer the same (begun with parts 40, 44, 45, 46 of p1)
set_option maxRecDepth 20000
-- steps by hand: branches, calls, quotients
/-- what stands at a place of a table -/
def t_r (full : List s_I) (pc : Nat) : Option s_I := match s_jump full pc with
  | some (r :: _) => some r
  | _ => none
section T40
variable {CALL : Nat → List Value → g_H → Nat → Nat → (Option Value → g_H → Prop) → Prop} {o nL : Nat} {ini : Bool} {bc bs : Nat} {cc : ByteArray} {P : g_S → Prop} {full : List s_I} {pc kd a k : Nat} {v0 : Int} {L : g_L} {rest : List Value} {w : g_W}
theorem t_r_ok (hfull : ∀ r ∈ full, s_okI cc o r = true) {r : s_I} (h : t_r full pc = some r) : s_okI cc o r = true := by
  unfold t_r at h
  split at h
  next r' t e =>
    cases h
    exact hfull r ((s_jump_mem e).2 r List.mem_cons_self)
  next => cases h
theorem t_icmp (hcl : ∀ S, g_pre CALL o nL ini bc bs cc P S → P S) (hfull : ∀ r ∈ full, s_okI cc o r = true) {cd : ClassFile.Cond} {off : Int} (h : t_r full pc = some (pc, 3, 22, kd, a, k, v0, .if_icmp cd off)) {x y : Int32}
    (kk : if g_c2 x y cd = true then P (a, L, rest, w) else P (pc + 3, L, rest, w)) : P (pc, L, .int y :: .int x :: rest, w) := by
  obtain ⟨⟨n, hd, hlen, hne⟩, hQ, hlk⟩ := s_okI_eq (t_r_ok hfull h) (by omega)
  subst hlen
  have hQ' : (decide ((pc : Int) + off = (a : Int)) && Nat.beq (s_cdn cd) k) = true := hQ
  rw [Bool.and_eq_true, decide_eq_true_eq] at hQ'
  apply hcl
  refine ⟨_, _, hd, Or.inr (Or.inr (Or.inl (Or.inr (Or.inr (Or.inl ⟨cd, off, a, x, y, rest, rfl, rfl, hQ'.1, rfl, ?_⟩)))))⟩
  split
  next e => rw [if_pos e] at kk; exact kk
  next e => rw [if_neg e] at kk; exact kk
theorem t_ifc (hcl : ∀ S, g_pre CALL o nL ini bc bs cc P S → P S) (hfull : ∀ r ∈ full, s_okI cc o r = true) {cd : ClassFile.Cond} {off : Int} (h : t_r full pc = some (pc, 3, 21, kd, a, k, v0, .ifCond cd off)) {x : Int32}
    (kk : if g_c1 x cd = true then P (a, L, rest, w) else P (pc + 3, L, rest, w)) : P (pc, L, .int x :: rest, w) := by
  obtain ⟨⟨n, hd, hlen, hne⟩, hQ, hlk⟩ := s_okI_eq (t_r_ok hfull h) (by omega)
  subst hlen
  have hQ' : (decide ((pc : Int) + off = (a : Int)) && Nat.beq (s_cdn cd) k) = true := hQ
  rw [Bool.and_eq_true, decide_eq_true_eq] at hQ'
  apply hcl
  refine ⟨_, _, hd, Or.inr (Or.inr (Or.inl (Or.inr (Or.inl ⟨cd, off, a, x, rest, rfl, rfl, hQ'.1, rfl, ?_⟩))))⟩
  split
  next e => rw [if_pos e] at kk; exact kk
  next e => rw [if_neg e] at kk; exact kk
theorem t_goto (hcl : ∀ S, g_pre CALL o nL ini bc bs cc P S → P S) (hfull : ∀ r ∈ full, s_okI cc o r = true) {off : Int} {st : List Value} (h : t_r full pc = some (pc, 3, 20, kd, a, k, v0, .goto off))
    (kk : P (a, L, st, w)) : P (pc, L, st, w) := by
  obtain ⟨⟨n, hd, hlen, hne⟩, hQ, hlk⟩ := s_okI_eq (t_r_ok hfull h) (by omega)
  subst hlen
  have hQ' : decide ((pc : Int) + off = (a : Int)) = true := hQ
  rw [decide_eq_true_eq] at hQ'
  apply hcl
  exact ⟨_, _, hd, Or.inr (Or.inr (Or.inl (Or.inl ⟨off, a, rfl, rfl, hQ', kk⟩)))⟩
theorem t_ldv (hcl : ∀ S, g_pre CALL o nL ini bc bs cc P S → P S) (hfull : ∀ r ∈ full, s_okI cc o r = true) {ins : Instr} {f : Int64 → Int64 → Int64} (h : t_r full pc = some (pc, 1, 15, kd, a, k, v0, ins)) (hf : g_ld ins = some f) {x y : Int64} (hy : ¬ y = 0)
    (kk : P (pc + 1, L, .long (f x y) :: rest, w)) : P (pc, L, .long y :: .long x :: rest, w) := by
  obtain ⟨⟨n, hd, hlen, hne⟩, hQ, hlk⟩ := s_okI_eq (t_r_ok hfull h) (by omega)
  subst hlen
  apply hcl
  exact ⟨_, _, hd, Or.inr (Or.inl (Or.inr (Or.inr (Or.inr (Or.inr (Or.inl ⟨f, x, y, rest, hf, rfl, hy, rfl, kk⟩))))))⟩
theorem t_stat (hcl : ∀ S, g_pre CALL o nL ini bc bs cc P S → P S) (hfull : ∀ r ∈ full, s_okI cc o r = true) {i : Nat} (h : t_r full pc = some (pc, 3, 35, kd, a, k, v0, .invokestatic i)) (hkd : kd = 4 ∨ kd = 5) (As : List Value) (hn : As.length = k) (hr : g_sum rest ≤ 8) {mc ms : Nat} (hc : w.1 + mc ≤ bc) (hs : w.2.1 + ms ≤ bs)
    (kk : CALL a As w.2.2 mc ms (fun r h' => P (pc + 3, L, r.toList ++ rest, w.1 + mc, w.2.1 + ms, h'))) {st : List Value} (hst : st = As.reverse ++ rest) : P (pc, L, st, w) := by
  obtain ⟨⟨n, hd, hlen, hne⟩, hQ, hlk⟩ := s_okI_eq (t_r_ok hfull h) (by omega)
  subst hlen
  obtain ⟨ps, hm⟩ := hlk (by decide) i rfl
  apply hcl
  exact ⟨_, _, hd, Or.inr (Or.inr (Or.inr (Or.inr (Or.inr (Or.inl ⟨i, kd, a, k, v0, ps, As, rest, mc, ms, rfl, rfl, hkd, hm, hst, hn, hr, hc, hs, kk⟩)))))⟩
theorem t_virt (hcl : ∀ S, g_pre CALL o nL ini bc bs cc P S → P S) (hfull : ∀ r ∈ full, s_okI cc o r = true) {i : Nat} (h : t_r full pc = some (pc, 3, 34, kd, a, k, v0, .invokevirtual i)) (hkd : kd = 2 ∨ kd = 3) (As : List Value) {ad : Nat} (hn : As.length = k) {q nf : Nat} {f : Nat → Value} (hq : g_get w.2.2 q = some (ad, false, (g_me a).2.1, nf, f)) (hr : g_sum rest ≤ 8) {mc ms : Nat} (hc : w.1 + mc ≤ bc) (hs : w.2.1 + ms ≤ bs)
    (kk : CALL a (.ref ad :: As) w.2.2 mc ms (fun r h' => P (pc + 3, L, r.toList ++ rest, w.1 + mc, w.2.1 + ms, h'))) {st : List Value} (hst : st = As.reverse ++ .ref ad :: rest) : P (pc, L, st, w) := by
  obtain ⟨⟨n, hd, hlen, hne⟩, hQ, hlk⟩ := s_okI_eq (t_r_ok hfull h) (by omega)
  subst hlen
  obtain ⟨ps, hm⟩ := hlk (by decide) i rfl
  apply hcl
  exact ⟨_, _, hd, Or.inr (Or.inr (Or.inr (Or.inr (Or.inl ⟨i, kd, a, k, v0, ps, As, ad, rest, q, nf, f, mc, ms, rfl, rfl, hkd, hm, hst, hn, hq, hr, hc, hs, kk⟩))))⟩
end T40
/-- a method's contract out of its body -/
theorem h_meth {j : Nat} {q : s_MI} (hq : s_mi[j]? = some q) {d : Nat} {as : List Value} {h : g_H} {post : Option Value → g_H → Prop} (hlen : (lg_sl as).length ≤ q.1)
    (body : ∀ P : g_S → Prop, (∀ S, g_end (g_by j) (g_rt j) q.2.2.2.1 q.2.2.2.2.1 post S → P S) → (∀ S, g_pre (g_run d) q.2.2.2.2.2 q.1 q.2.2.1 q.2.2.2.1 q.2.2.2.2.1 (g_by j) P S → P S) → P (0, lv_args 0 as, [], 0, 0, h)) : g_run (d + 1) j as h q.2.2.2.1 q.2.2.2.2.1 post := by
  obtain ⟨m1, m2, m3, m4, m5⟩ := s_mi_ok j q hq
  refine ⟨m1, by rw [m2]; exact hlen, ?_⟩
  rw [m5, m2, m4]
  exact body
theorem h_full {j : Nat} {q : s_MI} (hq : s_mi[j]? = some q) {t : List s_I} (ht : s_codes.getD j [] = t) : ∀ r ∈ t, s_okI (g_by j) q.2.2.2.2.2 r = true := by
  subst ht
  exact (s_codes_ok j q hq).2
theorem h_lret {j : Nat} {q : s_MI} (hq : s_mi[j]? = some q) (hrt : q.2.1 = 3) {full : List s_I} (hfull : ∀ r ∈ full, s_okI (g_by j) q.2.2.2.2.2 r = true) {pc kd a k : Nat} {v0 : Int} (h : t_r full pc = some (pc, 1, 41, kd, a, k, v0, .lreturn)) {bc bs cn sn : Nat} (hc : cn ≤ bc) (hs : sn ≤ bs) {post : Option Value → g_H → Prop} {x : Int64} {L : g_L} {hh : g_H} (kk : post (some (.long x)) hh) : g_end (g_by j) (g_rt j) bc bs post (pc, L, [.long x], cn, sn, hh) := by
  obtain ⟨⟨n, hd, hlen, hne⟩, hQ, hlk⟩ := s_okI_eq (t_r_ok hfull h) (by omega)
  subst hlen
  have m3 := (s_mi_ok j q hq).2.2.1
  rw [hrt] at m3
  exact ⟨hc, hs, Or.inr (Or.inl ⟨x, hd, m3, rfl, kk⟩)⟩
theorem h_in64 {n : Int} (h1 : -9223372036854775808 ≤ n) (h2 : n ≤ 9223372036854775807) : n.bmod (2 ^ 64) = n := by
  apply Int.bmod_eq_of_le <;> omega
theorem h_neg {x : Int64} (hx : -9223372036854775808 < x.toInt) : (-x).toInt = -x.toInt := by
  have h2 := Int64.toInt_lt x
  rw [Int64.toInt_neg, h_in64 (by omega) (by omega)]
theorem h_abs {d : Nat} {h : g_H} {x : Int64} {post : Option Value → g_H → Prop} (hx : -9223372036854775808 < x.toInt) (k : ∀ r : Int64, r.toInt = (x.toInt.natAbs : Int) → post (some (.long r)) h) : g_run (d + 1) 56 [.long x] h 0 0 post := by
  have hq : s_mi[56]? = some (2, 3, false, 0, 0, 14) := by decide +kernel
  have hfull := h_full hq (t := s_c_56) rfl
  refine h_meth hq (by show 2 ≤ 2; decide) ?_
  intro P hpost hcl
  refine t_at_ok hcl hfull (pc := 0) (n := 3) (pc' := 3) (L' := [(0, .long x)]) (st' := [.int (lg_cmp x (Int64.ofNat 0))]) rfl ?_
  refine t_ifc hcl hfull (cd := .ge) (a := 11) rfl ?_
  rw [h_cl, show h_ci x.toInt (Int64.ofNat 0).toInt .ge = decide (0 ≤ x.toInt) from rfl]
  split
  next e =>
    rw [decide_eq_true_eq] at e
    refine t_at_ok hcl hfull (pc := 11) (n := 1) (pc' := 12) (L' := [(0, .long x)]) (st' := [.long x]) rfl ?_
    exact hpost _ (h_lret hq rfl hfull rfl (Nat.le_refl _) (Nat.le_refl _) (k x (by omega)))
  next e =>
    rw [decide_eq_true_eq] at e
    refine t_at_ok hcl hfull (pc := 6) (n := 2) (pc' := 8) (L' := [(0, .long x)]) (st' := [.long (-x)]) rfl ?_
    refine t_goto hcl hfull (a := 12) rfl ?_
    refine hpost _ (h_lret hq rfl hfull rfl (Nat.le_refl _) (Nat.le_refl _) (k (-x) ?_))
    rw [h_neg hx]
    omega
theorem h_in32 {n : Int} (h1 : -2147483648 ≤ n) (h2 : n ≤ 2147483647) : n.bmod (2 ^ 32) = n := by
  apply Int.bmod_eq_of_le <;> omega
theorem h_inc {i : Int32} (h : i.toInt < 2147483647) : (i + Int32.ofInt 1).toInt = i.toInt + 1 := by
  have h2 := Int32.le_toInt i
  rw [Int32.toInt_add, show (Int32.ofInt 1).toInt = 1 from rfl, h_in32 (by omega) (by omega)]
theorem i_mul {x y : Int} {A B : Nat} (hx : x.natAbs ≤ A) (hy : y.natAbs ≤ B) : (x * y).natAbs ≤ A * B := by
  rw [Int.natAbs_mul]
  exact Nat.mul_le_mul hx hy
theorem i32m {x y : Int32} {A B : Nat} (hx : x.toInt.natAbs ≤ A) (hy : y.toInt.natAbs ≤ B) (h : A * B ≤ 1000000000) : (x * y).toInt = x.toInt * y.toInt ∧ (x * y).toInt.natAbs ≤ A * B := by
  have m := i_mul hx hy
  have e : (x * y).toInt = x.toInt * y.toInt := by
    rw [Int32.toInt_mul]
    exact h_in32 (by omega) (by omega)
  exact ⟨e, by rw [e]; exact m⟩
theorem i32a {x y : Int32} {A B : Nat} (hx : x.toInt.natAbs ≤ A) (hy : y.toInt.natAbs ≤ B) (h : A + B ≤ 1000000000) : (x + y).toInt = x.toInt + y.toInt ∧ (x + y).toInt.natAbs ≤ A + B := by
  have e : (x + y).toInt = x.toInt + y.toInt := by
    rw [Int32.toInt_add]
    exact h_in32 (by omega) (by omega)
  exact ⟨e, by omega⟩
theorem i32s {x y : Int32} {A B : Nat} (hx : x.toInt.natAbs ≤ A) (hy : y.toInt.natAbs ≤ B) (h : A + B ≤ 1000000000) : (x - y).toInt = x.toInt - y.toInt ∧ (x - y).toInt.natAbs ≤ A + B := by
  have e : (x - y).toInt = x.toInt - y.toInt := by
    rw [Int32.toInt_sub]
    exact h_in32 (by omega) (by omega)
  exact ⟨e, by omega⟩
theorem i64m {x y : Int64} {A B : Nat} (hx : x.toInt.natAbs ≤ A) (hy : y.toInt.natAbs ≤ B) (h : A * B ≤ 1000000000000000000) : (x * y).toInt = x.toInt * y.toInt ∧ (x * y).toInt.natAbs ≤ A * B := by
  have m := i_mul hx hy
  have e : (x * y).toInt = x.toInt * y.toInt := by
    rw [Int64.toInt_mul]
    exact h_in64 (by omega) (by omega)
  exact ⟨e, by rw [e]; exact m⟩
theorem i64a {x y : Int64} {A B : Nat} (hx : x.toInt.natAbs ≤ A) (hy : y.toInt.natAbs ≤ B) (h : A + B ≤ 1000000000000000000) : (x + y).toInt = x.toInt + y.toInt ∧ (x + y).toInt.natAbs ≤ A + B := by
  have e : (x + y).toInt = x.toInt + y.toInt := by
    rw [Int64.toInt_add]
    exact h_in64 (by omega) (by omega)
  exact ⟨e, by omega⟩
theorem i64s {x y : Int64} {A B : Nat} (hx : x.toInt.natAbs ≤ A) (hy : y.toInt.natAbs ≤ B) (h : A + B ≤ 1000000000000000000) : (x - y).toInt = x.toInt - y.toInt ∧ (x - y).toInt.natAbs ≤ A + B := by
  have e : (x - y).toInt = x.toInt - y.toInt := by
    rw [Int64.toInt_sub]
    exact h_in64 (by omega) (by omega)
  exact ⟨e, by omega⟩
theorem i64o (x : Int32) {A : Nat} (hx : x.toInt.natAbs ≤ A) : x.toInt64.toInt = x.toInt ∧ x.toInt64.toInt.natAbs ≤ A := by
  have e := Int32.toInt_toInt64 x
  exact ⟨e, by rw [e]; exact hx⟩
theorem h_iret {j : Nat} {q : s_MI} (hq : s_mi[j]? = some q) (hrt : q.2.1 = 1) {full : List s_I} (hfull : ∀ r ∈ full, s_okI (g_by j) q.2.2.2.2.2 r = true) {pc kd a k : Nat} {v0 : Int} (h : t_r full pc = some (pc, 1, 40, kd, a, k, v0, .ireturn)) {bc bs cn sn : Nat} (hc : cn ≤ bc) (hs : sn ≤ bs) {post : Option Value → g_H → Prop} {x : Int32} {L : g_L} {hh : g_H} (kk : post (some (.int x)) hh) : g_end (g_by j) (g_rt j) bc bs post (pc, L, [.int x], cn, sn, hh) := by
  obtain ⟨⟨n, hd, hlen, hne⟩, hQ, hlk⟩ := s_okI_eq (t_r_ok hfull h) (by omega)
  subst hlen
  have m3 := (s_mi_ok j q hq).2.2.1
  rw [hrt] at m3
  exact ⟨hc, hs, Or.inl ⟨x, .int, hd, m3, rfl, rfl, kk⟩⟩
def un_in (u d : Int) : Prop := 1 ≤ u ∧ u ≤ 1000 ∧ 1 ≤ d ∧ d ≤ 1000 ∧ d ≤ u
def un_of (u d a : Int) : Int := (((100 + a) * d - (100 - a) * u).natAbs : Int)
def un_best (u d : Int) : Nat → Int
  | 0 => 0
  | n + 1 => if un_of u d ((n : Int) + 1) * (100 - un_best u d n) < un_of u d (un_best u d n) * (100 - ((n : Int) + 1)) then (n : Int) + 1 else un_best u d n
theorem un_best_rng (u d : Int) : ∀ n, 0 ≤ un_best u d n ∧ un_best u d n ≤ n
  | 0 => ⟨Int.le_refl _, Int.le_refl _⟩
  | n + 1 => by
    have h := un_best_rng u d n
    rw [un_best]
    split
    · omega
    · omega
def un_X (u d a : Int32) : Int64 := (Int64.ofInt 100 + a.toInt64) * d.toInt64 - (Int64.ofInt 100 - a.toInt64) * u.toInt64
theorem un_X_eq {u d a : Int32} (h : un_in u.toInt d.toInt) (ha : 0 ≤ a.toInt ∧ a.toInt ≤ 100) : (un_X u d a).toInt = (100 + a.toInt) * d.toInt - (100 - a.toInt) * u.toInt ∧ (un_X u d a).toInt.natAbs ≤ 400000 := by
  obtain ⟨h1, h2, h3, h4, h5⟩ := h
  obtain ⟨a1, a2⟩ := i64o a (A := 100) (by omega)
  obtain ⟨u1, u2⟩ := i64o u (A := 1000) (by omega)
  obtain ⟨d1, d2⟩ := i64o d (A := 1000) (by omega)
  obtain ⟨e1, m1⟩ := i64a (x := Int64.ofInt 100) (A := 100) (by decide) a2 (by decide)
  obtain ⟨e2, m2⟩ := i64m m1 d2 (by decide)
  obtain ⟨e3, m3⟩ := i64s (x := Int64.ofInt 100) (A := 100) (by decide) a2 (by decide)
  obtain ⟨e4, m4⟩ := i64m m3 u2 (by decide)
  obtain ⟨e5, m5⟩ := i64s m2 m4 (by decide)
  refine ⟨?_, by unfold un_X; omega⟩
  unfold un_X
  rw [e5, e4, e3, e2, e1, a1, u1, d1, show (Int64.ofInt 100).toInt = 100 from rfl]
/-- h * (100 - x) in the machine's numbers -/
def un_W (h : Int64) (x : Int32) : Int64 := h * ((Int8.ofInt 100).toInt32 - x).toInt64
theorem un_W_eq {h : Int64} {x : Int32} (hh : h.toInt.natAbs ≤ 400000) (hx : 0 ≤ x.toInt ∧ x.toInt ≤ 100) : (un_W h x).toInt = h.toInt * (100 - x.toInt) := by
  obtain ⟨e1, m1⟩ := i32s (x := (Int8.ofInt 100).toInt32) (A := 100) (B := 100) (y := x) (by decide) (by omega) (by decide)
  obtain ⟨e2, m2⟩ := i64o _ m1
  obtain ⟨e3, m3⟩ := i64m hh m2 (by decide)
  unfold un_W
  rw [e3, e2, e1, show (Int8.ofInt 100).toInt32.toInt = 100 from rfl]
/-- the class's locals at the loop's head -/
def un_L (T : Value) (u d : Int32) (z : Option (Int64 × Int64)) (a best : Int32) : g_L := match z with
  | none => [(4, .int a), (3, .int best), (0, T), (1, .int u), (2, .int d)]
  | some (th, he) => [(4, .int a), (3, .int best), (7, .long th), (5, .long he), (0, T), (1, .int u), (2, .int d)]
/-- .. behind the first number -/
def un_M (T : Value) (u d : Int32) (z : Option (Int64 × Int64)) (a best : Int32) (he : Int64) : g_L := match z with
  | none => [(5, .long he), (4, .int a), (3, .int best), (0, T), (1, .int u), (2, .int d)]
  | some (th, _) => [(5, .long he), (4, .int a), (3, .int best), (7, .long th), (0, T), (1, .int u), (2, .int d)]
/-- the model's locals at the loop's head -/
def un_N (T : Value) (u d : Int32) (z : Option (Bool × Int64)) (a : Int32) (bo : Int64) (best : Int32) : g_L := match z with
  | none => [(6, .int a), (4, .long bo), (3, .int best), (0, T), (1, .int u), (2, .int d)]
  | some (false, off) => [(6, .int a), (7, .long off), (4, .long bo), (3, .int best), (0, T), (1, .int u), (2, .int d)]
  | some (true, off) => [(6, .int a), (4, .long bo), (3, .int best), (7, .long off), (0, T), (1, .int u), (2, .int d)]
section T46
variable {dp : Nat} {P : g_S → Prop} {T : Value} {u d : Int32} {h : g_H}
/-- the class's arguments -/
theorem un_x {w : g_W} (hcl : ∀ S, g_pre (g_run dp) 11 9 false 0 0 (g_by 163) P S → P S) (hfull : ∀ r ∈ s_c_163, s_okI (g_by 163) 11 r = true)
    (k1 : un_in u.toInt d.toInt → P (36, un_L T u d none (Int32.ofInt 1) (Int32.ofInt 0), [], w))
    (k2 : ¬ un_in u.toInt d.toInt → P (30, [(0, T), (1, .int u), (2, .int d)], [.int (Int32.ofInt (-1))], w)) : P (0, [(0, T), (1, .int u), (2, .int d)], [], w) := by
  have k3 : ¬ un_in u.toInt d.toInt → P (29, [(0, T), (1, .int u), (2, .int d)], [], w) := fun hn =>
    t_at_ok hcl hfull (pc := 29) (n := 1) (pc' := 30) (L' := _) (st' := _) rfl (k2 hn)
  refine t_at_ok hcl hfull (pc := 0) (n := 2) (pc' := 2) (L' := _) (st' := [.int (Int32.ofInt 1), .int u]) rfl ?_
  refine t_icmp hcl hfull (cd := .lt) (a := 29) rfl ?_
  rw [h_c2, show h_ci u.toInt (Int32.ofInt 1).toInt .lt = decide (u.toInt < 1) from rfl]
  split
  next e => rw [decide_eq_true_eq] at e; exact k3 (by unfold un_in; omega)
  next e1 =>
  rw [decide_eq_true_eq] at e1
  refine t_at_ok hcl hfull (pc := 5) (n := 2) (pc' := 9) (L' := _) (st' := [.int (Int16.ofInt 1000).toInt32, .int u]) rfl ?_
  refine t_icmp hcl hfull (cd := .gt) (a := 29) rfl ?_
  rw [h_c2, show h_ci u.toInt (Int16.ofInt 1000).toInt32.toInt .gt = decide (1000 < u.toInt) from rfl]
  split
  next e => rw [decide_eq_true_eq] at e; exact k3 (by unfold un_in; omega)
  next e2 =>
  rw [decide_eq_true_eq] at e2
  refine t_at_ok hcl hfull (pc := 12) (n := 2) (pc' := 14) (L' := _) (st' := [.int (Int32.ofInt 1), .int d]) rfl ?_
  refine t_icmp hcl hfull (cd := .lt) (a := 29) rfl ?_
  rw [h_c2, show h_ci d.toInt (Int32.ofInt 1).toInt .lt = decide (d.toInt < 1) from rfl]
  split
  next e => rw [decide_eq_true_eq] at e; exact k3 (by unfold un_in; omega)
  next e3 =>
  rw [decide_eq_true_eq] at e3
  refine t_at_ok hcl hfull (pc := 17) (n := 2) (pc' := 21) (L' := _) (st' := [.int (Int16.ofInt 1000).toInt32, .int d]) rfl ?_
  refine t_icmp hcl hfull (cd := .gt) (a := 29) rfl ?_
  rw [h_c2, show h_ci d.toInt (Int16.ofInt 1000).toInt32.toInt .gt = decide (1000 < d.toInt) from rfl]
  split
  next e => rw [decide_eq_true_eq] at e; exact k3 (by unfold un_in; omega)
  next e4 =>
  rw [decide_eq_true_eq] at e4
  refine t_at_ok hcl hfull (pc := 24) (n := 2) (pc' := 26) (L' := _) (st' := [.int d, .int u]) rfl ?_
  refine t_icmp hcl hfull (cd := .ge) (a := 31) rfl ?_
  rw [h_c2, show h_ci u.toInt d.toInt .ge = decide (d.toInt ≤ u.toInt) from rfl]
  split
  next e5 =>
    rw [decide_eq_true_eq] at e5
    refine t_at_ok hcl hfull (pc := 31) (n := 4) (pc' := 36) (L' := un_L T u d none (Int32.ofInt 1) (Int32.ofInt 0)) (st' := []) rfl ?_
    exact k1 (by unfold un_in; omega)
  next e => rw [decide_eq_true_eq] at e; exact k3 (by unfold un_in; omega)
/-- the class's loop -/
theorem un_xl (hcl : ∀ S, g_pre (g_run (dp + 1)) 11 9 false 0 0 (g_by 163) P S → P S) (hfull : ∀ r ∈ s_c_163, s_okI (g_by 163) 11 r = true) (hin : un_in u.toInt d.toInt)
    (k : ∀ (th he : Int64) (best : Int32), best.toInt = un_best u.toInt d.toInt 99 → P (127, un_L T u d (some (th, he)) (Int32.ofInt 100) best, [], 0, 0, h)) :
    ∀ (m n : Nat), n + m = 99 → ∀ (z : Option (Int64 × Int64)) (a best : Int32), (n = 0 ∨ z.isSome = true) → a.toInt = (n : Int) + 1 → best.toInt = un_best u.toInt d.toInt n → P (36, un_L T u d z a best, [], 0, 0, h) := by
  intro m
  induction m with
  | zero =>
    intro n hn z a best hz ha hb
    cases z with
    | none =>
      rcases hz with hz | hz
      · omega
      · cases hz
    | some z =>
      obtain ⟨th, he⟩ := z
      refine t_at_ok hcl hfull (pc := 36) (n := 2) (pc' := 40) (L' := un_L T u d (some (th, he)) a best) (st' := [.int (Int8.ofInt 100).toInt32, .int a]) rfl ?_
      refine t_icmp hcl hfull (cd := .ge) (a := 127) rfl ?_
      rw [h_c2, show h_ci a.toInt (Int8.ofInt 100).toInt32.toInt .ge = decide (100 ≤ a.toInt) from rfl, if_pos (by rw [decide_eq_true_eq]; omega)]
      have e : a = Int32.ofInt 100 := Int32.toInt_inj.mp (by rw [ha, show (Int32.ofInt 100).toInt = 100 from rfl]; omega)
      rw [e]
      have hn' : n = 99 := by omega
      subst hn'
      exact k th he best hb
  | succ m ih =>
    intro n hn z a best hz ha hb
    have hbr := un_best_rng u.toInt d.toInt n
    have ha' : 0 ≤ a.toInt ∧ a.toInt ≤ 100 := by omega
    have hb' : 0 ≤ best.toInt ∧ best.toInt ≤ 100 := by omega
    obtain ⟨x1, x2⟩ := un_X_eq hin ha'
    obtain ⟨y1, y2⟩ := un_X_eq hin hb'
    have step : ∀ (best2 : Int32) (he th : Int64), best2.toInt = un_best u.toInt d.toInt (n + 1) → P (120, [(7, .long th), (5, .long he), (4, .int a), (3, .int best), (0, T), (1, .int u), (2, .int d)], [.int best2], 0, 0, h) := by
      intro best2 he th hb2
      refine t_at_ok hcl hfull (pc := 120) (n := 2) (pc' := 124) (L' := un_L T u d (some (th, he)) (a + Int32.ofInt 1) best2) (st' := []) rfl ?_
      refine t_goto hcl hfull (a := 36) rfl ?_
      refine ih (n + 1) (by omega) _ _ _ (Or.inr rfl) ?_ hb2
      rw [h_inc (by omega), ha]
      omega
    have s2 : ∀ (he th : Int64), he.toInt = un_of u.toInt d.toInt a.toInt → th.toInt = un_of u.toInt d.toInt best.toInt → P (91, un_M T u d z a best he, [.long th], 0, 0, h) := by
      intro he th hhe hth
      have key : t_at s_c_163 9 91 14 (un_M T u d z a best he) [.long th] = some (111, [(7, .long th), (5, .long he), (4, .int a), (3, .int best), (0, T), (1, .int u), (2, .int d)], [.int (lg_cmp (un_W he best) (un_W th a))]) := by
        rcases z with _ | ⟨th0, he0⟩ <;> rfl
      refine t_at_ok hcl hfull key ?_
      have w1 := un_W_eq (h := he) (x := best) (by rw [hhe]; unfold un_of; omega) hb'
      have w2 := un_W_eq (h := th) (x := a) (by rw [hth]; unfold un_of; omega) ha'
      have hst : un_best u.toInt d.toInt (n + 1) = if (un_W he best).toInt < (un_W th a).toInt then a.toInt else best.toInt := by
        rw [un_best, w1, w2, hhe, hth, ha, hb]
      refine t_ifc hcl hfull (cd := .ge) (a := 119) rfl ?_
      rw [h_cl, show h_ci (un_W he best).toInt (un_W th a).toInt .ge = decide ((un_W th a).toInt ≤ (un_W he best).toInt) from rfl]
      split
      next e =>
        rw [decide_eq_true_eq] at e
        rw [if_neg (by omega)] at hst
        refine t_at_ok hcl hfull (pc := 119) (n := 1) (pc' := 120) (L' := _) (st' := [.int best]) rfl ?_
        exact step best he th hst.symm
      next e =>
        rw [decide_eq_true_eq] at e
        rw [if_pos (by omega)] at hst
        refine t_at_ok hcl hfull (pc := 114) (n := 1) (pc' := 116) (L' := _) (st' := [.int a]) rfl ?_
        refine t_goto hcl hfull (a := 120) rfl ?_
        exact step a he th hst.symm
    have s1 : ∀ he : Int64, he.toInt = un_of u.toInt d.toInt a.toInt → P (67, un_L T u d z a best, [.long he], 0, 0, h) := by
      intro he hhe
      have key : t_at s_c_163 9 67 16 (un_L T u d z a best) [.long he] = some (88, un_M T u d z a best he, [.long (un_X u d best)]) := by
        rcases z with _ | ⟨th0, he0⟩ <;> rfl
      refine t_at_ok hcl hfull key ?_
      refine t_stat hcl hfull (a := 56) rfl (Or.inl rfl) [.long (un_X u d best)] rfl (by decide) (mc := 0) (ms := 0) (Nat.le_refl _) (Nat.le_refl _) (rest := []) ?_ rfl
      exact h_abs (by omega) (fun th hth => s2 he th hhe (by rw [hth, y1]; rfl))
    have key : t_at s_c_163 9 36 2 (un_L T u d z a best) [] = some (40, un_L T u d z a best, [.int (Int8.ofInt 100).toInt32, .int a]) := by
      rcases z with _ | ⟨th0, he0⟩ <;> rfl
    refine t_at_ok hcl hfull key ?_
    refine t_icmp hcl hfull (cd := .ge) (a := 127) rfl ?_
    rw [h_c2, show h_ci a.toInt (Int8.ofInt 100).toInt32.toInt .ge = decide (100 ≤ a.toInt) from rfl, if_neg (by rw [decide_eq_true_eq]; omega)]
    have key2 : t_at s_c_163 9 43 15 (un_L T u d z a best) [] = some (64, un_L T u d z a best, [.long (un_X u d a)]) := by
      rcases z with _ | ⟨th0, he0⟩ <;> rfl
    refine t_at_ok hcl hfull key2 ?_
    refine t_stat hcl hfull (a := 56) rfl (Or.inl rfl) [.long (un_X u d a)] rfl (by decide) (mc := 0) (ms := 0) (Nat.le_refl _) (Nat.le_refl _) (rest := []) ?_ rfl
    exact h_abs (by omega) (fun he hhe => s1 he (by rw [hhe, x1]; rfl))
end T46
/-- a long that is told by its name -/
theorem iv_nmL {W : y_W} {β : Nat → Int} {lo hi : Int} {ku : Nat} {cu : Int} {n : Nat} {x : Value} (h0 : n ≠ 0) {u : Int64} (hb : β n = u.toInt) (h : y_g W β (1, lo, hi, n, 0, ku, cu) x) : x = .long u := by
  obtain ⟨m, rfl, -, -, h1, -⟩ := h
  have h2 : m.toInt = β n + 0 := h1 h0
  rw [Int64.toInt_inj.mp (show m.toInt = u.toInt by omega)]
theorem iv_nmI {W : y_W} {β : Nat → Int} {lo hi : Int} {ku : Nat} {cu : Int} {n : Nat} {x : Value} (h0 : n ≠ 0) {u : Int32} (hb : β n = u.toInt) (h : y_g W β (0, lo, hi, n, 0, ku, cu) x) : x = .int u := by
  obtain ⟨m, rfl, -, -, h1, -⟩ := h
  have h2 : m.toInt = β n + 0 := h1 h0
  rw [Int32.toInt_inj.mp (show m.toInt = u.toInt by omega)]
def iv_isN (kd n : Nat) (o : Option y_V) : Bool := match o with
  | some (t, _, _, k, c, _, _) => Nat.beq t kd && (Nat.beq k n && decide (c = 0))
  | none => false
theorem iv_isN_ok {kd n : Nat} {L : y_L} {i : Nat} {W : y_W} {β : Nat → Int} {Ls : g_L} (hL : y_gL W β L Ls) (hlt : i < 200000) (h : iv_isN kd n (y_find L i) = true) : ∃ lo hi ku cu x, (i, x) ∈ Ls ∧ y_g W β (kd, lo, hi, n, 0, ku, cu) x := by
  unfold iv_isN at h
  split at h
  next t lo hi k c ku cu e =>
    simp only [Bool.and_eq_true, Nat.beq_eq, decide_eq_true_eq] at h
    obtain ⟨rfl, rfl, rfl⟩ := h
    obtain ⟨x, h1, h2⟩ := hL _ (y_find_in e)
    exact ⟨lo, hi, ku, cu, x, h1.1 hlt, h2⟩
  next => cases h
def iv_un (u d : Int) : Int := if 1 ≤ u ∧ u ≤ 1000 ∧ 1 ≤ d ∧ d ≤ 1000 ∧ d ≤ u then un_best u d 99 else -1
def iv_u151 : List s_I := t_stop [151] s_c_163
def iv_u127 : Bool := match s_jump iv_u151 127 with
  | some c => (match y_run y_Rc s_ft s_mi (y_Kc 59) [] iv_u151 9 1000 [] (c, [(3, (0, 0, 99, 100003, 0, 0, 0)), (0, (2, 0, 0, 0, 0, 0, 0))], []) with
    | some ls => ls.all (fun Y => match Y with
      | (r :: _, L, st) => Nat.beq r.1 151 && (st.isEmpty && iv_isN 0 100003 (y_find L 3))
      | _ => false)
    | none => false)
  | none => false
set_option maxRecDepth 100000 in
theorem iv_u127_ok : iv_u127 = true := by decide +kernel
theorem iv_unX (A : Nat → Nat) (h : g_H) (u d : Int32) (hI : iv_inv A h) : g_run 60 163 [.ref (A 0), .int u, .int d] h 0 0 (fun r h' => r = some (.int (Int32.ofInt (iv_un u.toInt d.toInt))) ∧ iv_inv A h') := by
  obtain ⟨q1, q2, q3, q4, q5⟩ := s_mi_ok 163 (9, 1, false, 0, 0, 11) (by decide +kernel)
  obtain ⟨c1, c2⟩ := s_codes_ok 163 (9, 1, false, 0, 0, 11) (by decide +kernel)
  rw [show s_codes.getD 163 [] = s_c_163 from rfl] at c1 c2
  have q3 : g_rt 163 = some .int := q3
  refine ⟨q1, by rw [q2]; exact (show 3 ≤ 9 by decide), ?_⟩
  rw [q5, q2, q4]
  intro P hend hcl
  have ret : ∀ {pc len kd a9 k : Nat} {v0 : Int} {ins : Instr} {Ls : g_L} {x : Int32} {h' : g_H}, s_okI (g_by 163) 11 (pc, len, 40, kd, a9, k, v0, ins) = true → x = Int32.ofInt (iv_un u.toInt d.toInt) → iv_inv A h' → P (pc, Ls, [.int x], 0, 0, h') := by
    intro pc len kd a9 k v0 ins Ls x h' hok hv hI'
    exact hend _ ⟨Nat.le_refl _, Nat.le_refl _, Or.inl ⟨x, .int, iv_ireturn hok, q3, rfl, rfl, by rw [hv], hI'⟩⟩
  show P (0, [(0, .ref (A 0)), (1, .int u), (2, .int d)], [], 0, 0, h)
  refine un_x (dp := 59) hcl c2 (w := (0, 0, h)) (T := .ref (A 0)) (fun hin => ?_) (fun hn => ?_)
  · refine un_xl (dp := 58) hcl c2 hin (fun th he best hbest => ?_) 99 0 rfl none _ _ (Or.inl rfl) rfl rfl
    have hr := un_best_rng u.toInt d.toInt 99
    have hval : iv_un u.toInt d.toInt = best.toInt := by
      rw [hbest]
      exact if_pos hin
    have hb := iv_u127_ok
    unfold iv_u127 at hb
    split at hb
    next c9 ec =>
      split at hb
      next ls el =>
        have hj := s_jump_mem ec
        have ct2 : ∀ r ∈ iv_u151, s_okI (g_by 163) 11 r = true := t_stop_ok c2
        obtain ⟨⟨W, β, hH, hW⟩, M, hM, hInv⟩ := hI
        obtain ⟨k1, k2⟩ := y_run_ok (φ := iv_ct h) (P := P) hcl y_Rc_ok s_ft_ok s_mi_ok (y_Kc_ok 59) ct2 1000 [] _ ls el (fun q hq => ct2 q (hj.2 q hq)) (fun g hg => by cases hg)
        have hH2 : y_H (iv_ct h) y_Rc W (fun k => if k = 100003 then best.toInt else β k) h := y_H_b y_Rc_ok (fun k hk => by
          show (if k = 100003 then best.toInt else β k) = β k
          rw [if_neg (by omega)]) hH
        have key := k2 W _ h [(4, .int (Int32.ofInt 100)), (3, .int best), (7, .long th), (5, .long he), (0, .ref (A 0)), (1, .int u), (2, .int d)] [] hH2 (fun q hq => ?_) trivial (fun g hg => by cases hg) (fun Y hY => ?_)
        · rw [show s_pc c9 = 127 from hj.1] at key
          exact key
        · have hq : q ∈ [((3, (0, 0, 99, 100003, 0, 0, 0)) : Nat × y_V), (0, (2, 0, 0, 0, 0, 0, 0))] := hq
          simp only [List.mem_cons, List.not_mem_nil, or_false] at hq
          rcases hq with rfl | rfl
          · exact iv_gL (by decide) (List.mem_cons_of_mem _ List.mem_cons_self) ⟨best, rfl, by show (0 : Int) ≤ best.toInt; omega, by show best.toInt ≤ 99; omega, fun _ => (Int.add_zero _).symm, fun h => absurd rfl h⟩
          · exact iv_gL (by decide) (List.mem_cons_of_mem _ (List.mem_cons_of_mem _ (List.mem_cons_of_mem _ (List.mem_cons_of_mem _ List.mem_cons_self)))) ⟨0, A 0, rfl, hW 0 0 rfl⟩
        · have hbY := List.all_eq_true.mp hb Y hY
          intro W' β' h' Ls' sts' hWW hb9 hH' hL9 hS
          obtain ⟨c8, L, st⟩ := Y
          cases c8 with
          | nil => cases hbY
          | cons r t =>
            simp only [Bool.and_eq_true, Nat.beq_eq, List.isEmpty_iff] at hbY
            obtain ⟨r1, rfl, n3⟩ := hbY
            cases sts' with
            | cons _ _ => exact hS.elim
            | nil =>
              obtain ⟨_, _, _, _, y3, m3, g3⟩ := iv_isN_ok hL9 (by decide) n3
              have e3 := iv_nmI (u := best) (by decide) (by rw [hb9 100003 (by decide) (by decide)]; rfl) g3
              subst e3
              have hI' := iv_back hW hM hInv hWW hH'
              show P (r.1, Ls', [], 0, 0, h')
              rw [r1]
              refine hcl _ ⟨_, _, iv_dec (c2 _ (iv_in (c := []) (pc := 151) rfl)) (by decide) (by decide), Or.inl (Or.inr (Or.inl ⟨3, _, _, rfl, m3, rfl, ?_⟩))⟩
              exact ret (c2 _ (iv_in (c := []) (pc := 152) rfl)) (by rw [hval, Int32.ofInt_toInt]) hI'
      next => cases hb
    next => cases hb
  · exact ret (c2 _ (iv_in (c := []) (pc := 30) rfl)) (congrArg Int32.ofInt (show iv_un u.toInt d.toInt = -1 from if_neg hn).symm) hI
theorem un_of_le {u d a : Int} (hu : 1 ≤ u ∧ u ≤ 1000) (hd : 1 ≤ d ∧ d ≤ 1000) (ha : 0 ≤ a ∧ a ≤ 99) : 0 ≤ un_of u d a ∧ un_of u d a ≤ 400000 := by
  have h1 := xm_mulp (p := 100 + a) (q := d) (a := 199) (b := 1000) (by omega) (by omega) (by omega) (by omega)
  have h2 := xm_mulp (p := 100 - a) (q := u) (a := 100) (b := 1000) (by omega) (by omega) (by omega) (by omega)
  unfold un_of
  omega
theorem un_nx {u d a b : Int} (hu : 1 ≤ u ∧ u ≤ 1000) (hd : 1 ≤ d ∧ d ≤ 1000) (hb : 0 ≤ b ∧ b ≤ 99) (ha : 1 ≤ a ∧ a ≤ 99) : xa_w64 (un_of u d b * (100 - a)) = un_of u d b * (100 - a) := by
  have h := un_of_le hu hd hb
  have h1 : 0 ≤ un_of u d b * (100 - a) := Int.mul_nonneg h.1 (by omega)
  have h2 : un_of u d b * (100 - a) ≤ 400000 * 100 := Int.mul_le_mul h.2 (by omega) (by omega) (by omega)
  exact xa_w64_id (by omega) (by omega)
theorem ms_unevenF {A : Nat → Nat} {h0 : g_H} {d : Nat} {M : xa_M} {post : Option xa_V → xa_M → Prop} {l1 u1 l2 u2 : Int} {x1 x2 : Int} (hI : xm_Inv M) (k : ∀ (lo hi r : Int) (M1 : xa_M), r = iv_un x1 x2 → xm_Inv M1 → post (some (0, 0, lo, hi, r)) M1) : xa_C xm_I A h0 (d + 4) 271 [(2, 60, 0, 0, 0), (0, 0, l1, u1, x1), (0, 0, l2, u2, x2)] M post := by
  refine xa_C_arg [(2, 60, 0, 0, 0), (0, 0, (-2147483648), 2147483647, x1), (0, 0, (-2147483648), 2147483647, x2)] (xa_svR (xa_svI (fun _ _ _ _ => by omega) (xa_svI (fun _ _ _ _ => by omega) xa_sv0))) ?_
  refine xa_meth (Q0 := (9, 1, false, 0, 0, 12)) (by decide +kernel) ⟨rfl, rfl⟩ (full := s_c_271) rfl rfl ?_
  intro hM hv Q hgo
  have loop0 : x2 ≤ x1 → 1 ≤ x1 → x1 ≤ 1000 → 1 ≤ x2 → x2 ≤ 1000 → ∀ (n : Nat) (x6 x4 x3 : Int) (M1 : xa_M), 1 ≤ x6 ∧ x6 ≤ 100 → 0 ≤ x3 ∧ x3 ≤ 99 → 1 ≤ x2 ∧ x2 ≤ 1000 → 1 ≤ x1 ∧ x1 ≤ 1000 → xm_is M M1 → x4 = un_of x1 x2 x3 → x3 = un_best x1 x2 (x6 - 1).toNat → 100 - x6 < (n : Int) → Q 49 [(6, (0, 0, 1, 100, x6)), (4, (1, 0, (-9223372036854775808), 9223372036854775807, x4)), (3, (0, 0, 0, 99, x3)), (2, (0, 0, 1, 1000, x2)), (1, (0, 0, 1, 1000, x1)), (0, (2, 60, 0, 0, 0))] [] M1 := by
    intro w9 u0 u1 v0 v1
    intro n
    induction n with
    | zero => intro x6 x4 x3 M1 b6 b3 f2 f1 hc hq4 hq3 hms; omega
    | succ n ih0 =>
      intro x6 x4 x3 M1 b6 b3 f2 f1 hc hq4 hq3 hms0
      refine hgo.1 44 [49] 49 _ _ _ ?_
      refine And.intro ?_ ?_
      · intro (c1 : 100 ≤ x6)
        show xa_C xm_I A h0 _ 230 [(2, 60, 0, 0, 0), (1, 0, 100, 199, 100 + x3), (1, 0, 1, 100, 100 - x3)] (xa_up M1 60 20 0) _
        refine ct_tellPart (n := 0) (by first | rfl | (simp [xa_up]; done)) (by decide) (by decide) (by decide) (by omega) (fun g2 eg2 pg2 qg2 => ?_)
        show post (some (0, 0, 0, 99, x3)) (xa_up (xa_up (xa_up (xa_up (xa_up M1 60 20 0) 74 0 ((100 + x3).tdiv g2)) 60 20 1) 74 1 ((100 - x3).tdiv g2)) 60 20 2)
        exact k _ _ _ _ (by rw [hq3, show (x6 - 1).toNat = 99 by omega]; exact (if_pos (by omega)).symm) (xm_Inv_is (xm_is_u rfl (xm_is_u rfl (xm_is_u rfl (xm_is_u rfl (xm_is_u rfl hc))))) hI)
      · intro (c1 : x6 < 100)
        show xa_C xm_I A h0 _ 56 [(1, 0, (-98899), 200000, ((100 + x6) * x2) - ((100 - x6) * x1))] M1 _
        refine ct_absb 200000 (by decide) (by decide) (by decide) (fun a3 ea3 => ?_)
        have hun : un_best x1 x2 (x6 + 1 - 1).toNat = if a3 * (100 - x3) < xa_w64 (x4 * (100 - x6)) then x6 else x3 := by
          rw [show (x6 + 1 - 1).toNat = (x6 - 1).toNat + 1 by omega, un_best, hq4, un_nx f1 f2 b3 (by omega), ← hq3, show (((x6 - 1).toNat : Nat) : Int) + 1 = x6 by omega, show a3 = un_of x1 x2 x6 from ea3]
        refine And.intro ?_ ?_
        · intro (c4 : (a3 * (100 - x3)) < (xa_w64 (x4 * (100 - x6))))
          show Q 49 [(6, (0, 0, 2, 101, x6 + 1)), (4, (1, 0, 0, 200000, a3)), (3, (0, 0, 1, 100, x6)), (7, (1, 0, 0, 200000, a3)), (2, (0, 0, 1, 1000, x2)), (1, (0, 0, 1, 1000, x1)), (0, (2, 60, 0, 0, 0))] [] M1
          refine hgo.2.1 49 _ [(6, (0, 0, 1, 100, x6 + 1)), (4, (1, 0, (-9223372036854775808), 9223372036854775807, a3)), (3, (0, 0, 0, 99, x6)), (2, (0, 0, 1, 1000, x2)), (1, (0, 0, 1, 1000, x1)), (0, (2, 60, 0, 0, 0))] _ _ (xa_subI rfl rfl (fun _ _ _ _ => by omega) (xa_subL rfl rfl (fun _ _ _ _ => by omega) (xa_subI rfl rfl (fun _ _ _ _ => by omega) (xa_subI rfl rfl (fun _ _ _ _ => by omega) (xa_subI rfl rfl (fun _ _ _ _ => by omega) (xa_subR rfl xa_sub0)))))) ?_
          exact ih0 (x6 + 1) a3 x6 M1 (by omega) (by omega) (by omega) (by omega) hc ea3 (by rw [hun, if_pos c4]) (by omega)
        · intro (c4 : (xa_w64 (x4 * (100 - x6))) ≤ (a3 * (100 - x3)))
          show Q 49 [(6, (0, 0, 2, 101, x6 + 1)), (7, (1, 0, 0, 200000, a3)), (4, (1, 0, (-9223372036854775808), 9223372036854775807, x4)), (3, (0, 0, 0, 99, x3)), (2, (0, 0, 1, 1000, x2)), (1, (0, 0, 1, 1000, x1)), (0, (2, 60, 0, 0, 0))] [] M1
          refine hgo.2.1 49 _ [(6, (0, 0, 1, 100, x6 + 1)), (4, (1, 0, (-9223372036854775808), 9223372036854775807, x4)), (3, (0, 0, 0, 99, x3)), (2, (0, 0, 1, 1000, x2)), (1, (0, 0, 1, 1000, x1)), (0, (2, 60, 0, 0, 0))] _ _ (xa_subI rfl rfl (fun _ _ _ _ => by omega) (xa_subL rfl rfl (fun _ _ _ _ => by omega) (xa_subI rfl rfl (fun _ _ _ _ => by omega) (xa_subI rfl rfl (fun _ _ _ _ => by omega) (xa_subI rfl rfl (fun _ _ _ _ => by omega) (xa_subR rfl xa_sub0)))))) ?_
          exact ih0 (x6 + 1) x4 x3 M1 (by omega) (by omega) (by omega) (by omega) hc hq4 (by rw [hun, if_neg (by omega)]) (by omega)
  refine hgo.1 22 [34] 0 _ _ _ ?_
  show xa_C xm_I A h0 _ 214 [(0, 0, (-2147483648), 2147483647, x1), (0, 0, 1, 1, 1), (0, 0, 1000, 1000, 1000)] (xa_up M 60 21 0) _
  refine ct_in ?_ ?_
  · intro (i1 : 1 ≤ x1 ∧ x1 ≤ 1000)
    show xa_C xm_I A h0 _ 214 [(0, 0, (-2147483648), 2147483647, x2), (0, 0, 1, 1, 1), (0, 0, 1000, 1000, 1000)] (xa_up M 60 21 0) _
    refine ct_in ?_ ?_
    · intro (i2 : 1 ≤ x2 ∧ x2 ≤ 1000)
      refine And.intro ?_ ?_
      · intro (c3 : x2 ≤ x1)
        show Q 34 [(0, (2, 60, 0, 0, 0)), (1, (0, 0, (-2147483648), 2147483647, x1)), (2, (0, 0, (-2147483648), 2147483647, x2))] [] (xa_up M 60 21 0)
        refine hgo.2.1 34 _ [(0, (2, 60, 0, 0, 0)), (1, (0, 0, 1, 1000, x1)), (2, (0, 0, 1, 1000, x2))] _ _ (xa_subR rfl (xa_subI rfl rfl (fun _ _ _ _ => by omega) (xa_subI rfl rfl (fun _ _ _ _ => by omega) xa_sub0))) ?_
        have hb1 : 1 ≤ x1 ∧ x1 ≤ 1000 := by omega
        have hb2 : 1 ≤ x2 ∧ x2 ≤ 1000 := by omega
        refine hgo.1 16 [49] 34 _ _ _ ?_
        show Q 49 [(6, (0, 0, 1, 1, 1)), (4, (1, 0, (-99900), 99900, 100 * (x1 - x2))), (3, (0, 0, 0, 0, 0)), (0, (2, 60, 0, 0, 0)), (1, (0, 0, 1, 1000, x1)), (2, (0, 0, 1, 1000, x2))] [] (xa_up M 60 21 0)
        refine hgo.2.1 49 _ [(6, (0, 0, 1, 100, 1)), (4, (1, 0, (-9223372036854775808), 9223372036854775807, 100 * (x1 - x2))), (3, (0, 0, 0, 99, 0)), (2, (0, 0, 1, 1000, x2)), (1, (0, 0, 1, 1000, x1)), (0, (2, 60, 0, 0, 0))] _ _ (xa_subI rfl rfl (fun _ _ _ _ => by omega) (xa_subL rfl rfl (fun _ _ _ _ => by omega) (xa_subI rfl rfl (fun _ _ _ _ => by omega) (xa_subI rfl rfl (fun _ _ _ _ => by omega) (xa_subI rfl rfl (fun _ _ _ _ => by omega) (xa_subR rfl xa_sub0)))))) ?_
        exact loop0 c3 hb1.1 hb1.2 hb2.1 hb2.2 100 1 (100 * (x1 - x2)) 0 (xa_up M 60 21 0) (by omega) (by omega) (by omega) (by omega) (xm_is_u rfl xm_is_r) (by unfold un_of; omega) rfl (by omega)
      · intro (c3 : x1 < x2)
        show post (some (0, 0, (-1), (-1), (-1))) (xa_up M 60 21 0)
        exact k _ _ _ _ (if_neg (by omega)).symm (xm_Inv_is (xm_is_u rfl xm_is_r) hI)
    · intro (i2 : ¬ (1 ≤ x2 ∧ x2 ≤ 1000))
      show post (some (0, 0, (-1), (-1), (-1))) (xa_up M 60 21 0)
      exact k _ _ _ _ (if_neg (by omega)).symm (xm_Inv_is (xm_is_u rfl xm_is_r) hI)
  · intro (i1 : ¬ (1 ≤ x1 ∧ x1 ≤ 1000))
    show post (some (0, 0, (-1), (-1), (-1))) (xa_up M 60 21 0)
    exact k _ _ _ _ (if_neg (by omega)).symm (xm_Inv_is (xm_is_u rfl xm_is_r) hI)
theorem iv_unM (A : Nat → Nat) (h : g_H) (a b : Int32) (hI : iv_inv A h) : g_run 60 271 [.ref (A 60), .int a, .int b] h 0 0 (fun r h' => r = some (.int (Int32.ofInt (iv_un a.toInt b.toInt))) ∧ iv_inv A h') := by
  refine g_run_mono (iv_callM2 (d := 60) hI (vs := [(2, 60, 0, 0, 0), (0, 0, -2147483648, 2147483647, a.toInt), (0, 0, -2147483648, 2147483647, b.toInt)]) (xs := [.ref (A 60), .int a, .int b]) ⟨rfl, iv_i a, iv_i b, trivial⟩ (fun o => ∃ lo hi r, r = iv_un a.toInt b.toInt ∧ o = some (0, 0, lo, hi, r)) (fun M hM => ms_unevenF hM (fun lo hi r M1 hr hc => ⟨⟨lo, hi, r, hr, rfl⟩, hc⟩))) (fun r h' hp => ⟨?_, hp.2⟩)
  obtain ⟨⟨o, ⟨lo, hi, r, hr, rfl⟩, y, e, z, hz, hz2, -⟩, -⟩ := hp
  rw [e, hz, ← hr, ← hz2, Int32.ofInt_toInt]
theorem iv_cmp_pair (A : Nat → Nat) : iv_pair (iv_inv A) A 163 271 [0, 0] true false := by
  intro h as hI hs
  obtain ⟨m1, ys, rfl, -, hs⟩ := iv_spc hs
  obtain ⟨m2, ys, rfl, -, hs⟩ := iv_spc hs
  obtain rfl := iv_sp0 hs
  refine ⟨0, 0, by decide, by decide, g_run_mono (iv_unX A h m1 m2 hI) (fun r1 h1 hp => ?_)⟩
  refine ⟨_, hp.1, iv_sh_ok hp.2, g_run_mono (iv_unM A h1 m1 m2 hp.2) (fun r2 h2 hp2 => ?_)⟩
  exact ⟨⟨_, hp2.1, fun _ => rfl⟩, hp2.2⟩
