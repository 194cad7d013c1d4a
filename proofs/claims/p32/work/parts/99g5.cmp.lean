-- slot: both answer the same (begun with parts 40, 44, 45 of p1)
set_option maxRecDepth 20000
-- steps by hand: branches, calls, quotients
/-- what stands at a place of a table -/
def t_r (full : List s_I) (pc : Nat) : Option s_I := match s_jump full pc with
  | some (r :: _) => some r
  | _ => none
section T40
variable {CALL : Nat → List Value → g_H → Nat → Nat → (Option Value → g_H → Prop) → Prop} {o nL : Nat} {ini : Bool} {bc bs : Nat} {cc : ByteArray} {P : g_S → Prop} {full : List s_I} {pc kd a k : Nat} {v0 : Int} {L : g_L} {rest : List Value} {w : g_W}
theorem t_r_ok (hfull : ∀ r ∈ full, s_okI cc o r = true) {r : s_I} (h : t_r full pc = some r) : s_okI cc o r = true := by
  unfold t_r at h
  split at h
  next r' t e =>
    cases h
    exact hfull r ((s_jump_mem e).2 r List.mem_cons_self)
  next => cases h
theorem t_icmp (hcl : ∀ S, g_pre CALL o nL ini bc bs cc P S → P S) (hfull : ∀ r ∈ full, s_okI cc o r = true) {cd : ClassFile.Cond} {off : Int} (h : t_r full pc = some (pc, 3, 22, kd, a, k, v0, .if_icmp cd off)) {x y : Int32}
    (kk : if g_c2 x y cd = true then P (a, L, rest, w) else P (pc + 3, L, rest, w)) : P (pc, L, .int y :: .int x :: rest, w) := by
  obtain ⟨⟨n, hd, hlen, hne⟩, hQ, hlk⟩ := s_okI_eq (t_r_ok hfull h) (by omega)
  subst hlen
  have hQ' : (decide ((pc : Int) + off = (a : Int)) && Nat.beq (s_cdn cd) k) = true := hQ
  rw [Bool.and_eq_true, decide_eq_true_eq] at hQ'
  apply hcl
  refine ⟨_, _, hd, Or.inr (Or.inr (Or.inl (Or.inr (Or.inr (Or.inl ⟨cd, off, a, x, y, rest, rfl, rfl, hQ'.1, rfl, ?_⟩)))))⟩
  split
  next e => rw [if_pos e] at kk; exact kk
  next e => rw [if_neg e] at kk; exact kk
theorem t_ifc (hcl : ∀ S, g_pre CALL o nL ini bc bs cc P S → P S) (hfull : ∀ r ∈ full, s_okI cc o r = true) {cd : ClassFile.Cond} {off : Int} (h : t_r full pc = some (pc, 3, 21, kd, a, k, v0, .ifCond cd off)) {x : Int32}
    (kk : if g_c1 x cd = true then P (a, L, rest, w) else P (pc + 3, L, rest, w)) : P (pc, L, .int x :: rest, w) := by
  obtain ⟨⟨n, hd, hlen, hne⟩, hQ, hlk⟩ := s_okI_eq (t_r_ok hfull h) (by omega)
  subst hlen
  have hQ' : (decide ((pc : Int) + off = (a : Int)) && Nat.beq (s_cdn cd) k) = true := hQ
  rw [Bool.and_eq_true, decide_eq_true_eq] at hQ'
  apply hcl
  refine ⟨_, _, hd, Or.inr (Or.inr (Or.inl (Or.inr (Or.inl ⟨cd, off, a, x, rest, rfl, rfl, hQ'.1, rfl, ?_⟩))))⟩
  split
  next e => rw [if_pos e] at kk; exact kk
  next e => rw [if_neg e] at kk; exact kk
theorem t_goto (hcl : ∀ S, g_pre CALL o nL ini bc bs cc P S → P S) (hfull : ∀ r ∈ full, s_okI cc o r = true) {off : Int} {st : List Value} (h : t_r full pc = some (pc, 3, 20, kd, a, k, v0, .goto off))
    (kk : P (a, L, st, w)) : P (pc, L, st, w) := by
  obtain ⟨⟨n, hd, hlen, hne⟩, hQ, hlk⟩ := s_okI_eq (t_r_ok hfull h) (by omega)
  subst hlen
  have hQ' : decide ((pc : Int) + off = (a : Int)) = true := hQ
  rw [decide_eq_true_eq] at hQ'
  apply hcl
  exact ⟨_, _, hd, Or.inr (Or.inr (Or.inl (Or.inl ⟨off, a, rfl, rfl, hQ', kk⟩)))⟩
theorem t_ldv (hcl : ∀ S, g_pre CALL o nL ini bc bs cc P S → P S) (hfull : ∀ r ∈ full, s_okI cc o r = true) {ins : Instr} {f : Int64 → Int64 → Int64} (h : t_r full pc = some (pc, 1, 15, kd, a, k, v0, ins)) (hf : g_ld ins = some f) {x y : Int64} (hy : ¬ y = 0)
    (kk : P (pc + 1, L, .long (f x y) :: rest, w)) : P (pc, L, .long y :: .long x :: rest, w) := by
  obtain ⟨⟨n, hd, hlen, hne⟩, hQ, hlk⟩ := s_okI_eq (t_r_ok hfull h) (by omega)
  subst hlen
  apply hcl
  exact ⟨_, _, hd, Or.inr (Or.inl (Or.inr (Or.inr (Or.inr (Or.inr (Or.inl ⟨f, x, y, rest, hf, rfl, hy, rfl, kk⟩))))))⟩
theorem t_stat (hcl : ∀ S, g_pre CALL o nL ini bc bs cc P S → P S) (hfull : ∀ r ∈ full, s_okI cc o r = true) {i : Nat} (h : t_r full pc = some (pc, 3, 35, kd, a, k, v0, .invokestatic i)) (hkd : kd = 4 ∨ kd = 5) (As : List Value) (hn : As.length = k) (hr : g_sum rest ≤ 8) {mc ms : Nat} (hc : w.1 + mc ≤ bc) (hs : w.2.1 + ms ≤ bs)
    (kk : CALL a As w.2.2 mc ms (fun r h' => P (pc + 3, L, r.toList ++ rest, w.1 + mc, w.2.1 + ms, h'))) {st : List Value} (hst : st = As.reverse ++ rest) : P (pc, L, st, w) := by
  obtain ⟨⟨n, hd, hlen, hne⟩, hQ, hlk⟩ := s_okI_eq (t_r_ok hfull h) (by omega)
  subst hlen
  obtain ⟨ps, hm⟩ := hlk (by decide) i rfl
  apply hcl
  exact ⟨_, _, hd, Or.inr (Or.inr (Or.inr (Or.inr (Or.inr (Or.inl ⟨i, kd, a, k, v0, ps, As, rest, mc, ms, rfl, rfl, hkd, hm, hst, hn, hr, hc, hs, kk⟩)))))⟩
theorem t_virt (hcl : ∀ S, g_pre CALL o nL ini bc bs cc P S → P S) (hfull : ∀ r ∈ full, s_okI cc o r = true) {i : Nat} (h : t_r full pc = some (pc, 3, 34, kd, a, k, v0, .invokevirtual i)) (hkd : kd = 2 ∨ kd = 3) (As : List Value) {ad : Nat} (hn : As.length = k) {q nf : Nat} {f : Nat → Value} (hq : g_get w.2.2 q = some (ad, false, (g_me a).2.1, nf, f)) (hr : g_sum rest ≤ 8) {mc ms : Nat} (hc : w.1 + mc ≤ bc) (hs : w.2.1 + ms ≤ bs)
    (kk : CALL a (.ref ad :: As) w.2.2 mc ms (fun r h' => P (pc + 3, L, r.toList ++ rest, w.1 + mc, w.2.1 + ms, h'))) {st : List Value} (hst : st = As.reverse ++ .ref ad :: rest) : P (pc, L, st, w) := by
  obtain ⟨⟨n, hd, hlen, hne⟩, hQ, hlk⟩ := s_okI_eq (t_r_ok hfull h) (by omega)
  subst hlen
  obtain ⟨ps, hm⟩ := hlk (by decide) i rfl
  apply hcl
  exact ⟨_, _, hd, Or.inr (Or.inr (Or.inr (Or.inr (Or.inl ⟨i, kd, a, k, v0, ps, As, ad, rest, q, nf, f, mc, ms, rfl, rfl, hkd, hm, hst, hn, hq, hr, hc, hs, kk⟩))))⟩
end T40
/-- a method's contract out of its body -/
theorem h_meth {j : Nat} {q : s_MI} (hq : s_mi[j]? = some q) {d : Nat} {as : List Value} {h : g_H} {post : Option Value → g_H → Prop} (hlen : (lg_sl as).length ≤ q.1)
    (body : ∀ P : g_S → Prop, (∀ S, g_end (g_by j) (g_rt j) q.2.2.2.1 q.2.2.2.2.1 post S → P S) → (∀ S, g_pre (g_run d) q.2.2.2.2.2 q.1 q.2.2.1 q.2.2.2.1 q.2.2.2.2.1 (g_by j) P S → P S) → P (0, lv_args 0 as, [], 0, 0, h)) : g_run (d + 1) j as h q.2.2.2.1 q.2.2.2.2.1 post := by
  obtain ⟨m1, m2, m3, m4, m5⟩ := s_mi_ok j q hq
  refine ⟨m1, by rw [m2]; exact hlen, ?_⟩
  rw [m5, m2, m4]
  exact body
theorem h_full {j : Nat} {q : s_MI} (hq : s_mi[j]? = some q) {t : List s_I} (ht : s_codes.getD j [] = t) : ∀ r ∈ t, s_okI (g_by j) q.2.2.2.2.2 r = true := by
  subst ht
  exact (s_codes_ok j q hq).2
theorem h_lret {j : Nat} {q : s_MI} (hq : s_mi[j]? = some q) (hrt : q.2.1 = 3) {full : List s_I} (hfull : ∀ r ∈ full, s_okI (g_by j) q.2.2.2.2.2 r = true) {pc kd a k : Nat} {v0 : Int} (h : t_r full pc = some (pc, 1, 41, kd, a, k, v0, .lreturn)) {bc bs cn sn : Nat} (hc : cn ≤ bc) (hs : sn ≤ bs) {post : Option Value → g_H → Prop} {x : Int64} {L : g_L} {hh : g_H} (kk : post (some (.long x)) hh) : g_end (g_by j) (g_rt j) bc bs post (pc, L, [.long x], cn, sn, hh) := by
  obtain ⟨⟨n, hd, hlen, hne⟩, hQ, hlk⟩ := s_okI_eq (t_r_ok hfull h) (by omega)
  subst hlen
  have m3 := (s_mi_ok j q hq).2.2.1
  rw [hrt] at m3
  exact ⟨hc, hs, Or.inr (Or.inl ⟨x, hd, m3, rfl, kk⟩)⟩
theorem h_in64 {n : Int} (h1 : -9223372036854775808 ≤ n) (h2 : n ≤ 9223372036854775807) : n.bmod (2 ^ 64) = n := by
  apply Int.bmod_eq_of_le <;> omega
theorem h_neg {x : Int64} (hx : -9223372036854775808 < x.toInt) : (-x).toInt = -x.toInt := by
  have h2 := Int64.toInt_lt x
  rw [Int64.toInt_neg, h_in64 (by omega) (by omega)]
theorem h_abs {d : Nat} {h : g_H} {x : Int64} {post : Option Value → g_H → Prop} (hx : -9223372036854775808 < x.toInt) (k : ∀ r : Int64, r.toInt = (x.toInt.natAbs : Int) → post (some (.long r)) h) : g_run (d + 1) 56 [.long x] h 0 0 post := by
  have hq : s_mi[56]? = some (2, 3, false, 0, 0, 14) := by decide +kernel
  have hfull := h_full hq (t := s_c_56) rfl
  refine h_meth hq (by show 2 ≤ 2; decide) ?_
  intro P hpost hcl
  refine t_at_ok hcl hfull (pc := 0) (n := 3) (pc' := 3) (L' := [(0, .long x)]) (st' := [.int (lg_cmp x (Int64.ofNat 0))]) rfl ?_
  refine t_ifc hcl hfull (cd := .ge) (a := 11) rfl ?_
  rw [h_cl, show h_ci x.toInt (Int64.ofNat 0).toInt .ge = decide (0 ≤ x.toInt) from rfl]
  split
  next e =>
    rw [decide_eq_true_eq] at e
    refine t_at_ok hcl hfull (pc := 11) (n := 1) (pc' := 12) (L' := [(0, .long x)]) (st' := [.long x]) rfl ?_
    exact hpost _ (h_lret hq rfl hfull rfl (Nat.le_refl _) (Nat.le_refl _) (k x (by omega)))
  next e =>
    rw [decide_eq_true_eq] at e
    refine t_at_ok hcl hfull (pc := 6) (n := 2) (pc' := 8) (L' := [(0, .long x)]) (st' := [.long (-x)]) rfl ?_
    refine t_goto hcl hfull (a := 12) rfl ?_
    refine hpost _ (h_lret hq rfl hfull rfl (Nat.le_refl _) (Nat.le_refl _) (k (-x) ?_))
    rw [h_neg hx]
    omega
theorem h_in32 {n : Int} (h1 : -2147483648 ≤ n) (h2 : n ≤ 2147483647) : n.bmod (2 ^ 32) = n := by
  apply Int.bmod_eq_of_le <;> omega
theorem h_inc {i : Int32} (h : i.toInt < 2147483647) : (i + Int32.ofInt 1).toInt = i.toInt + 1 := by
  have h2 := Int32.le_toInt i
  rw [Int32.toInt_add, show (Int32.ofInt 1).toInt = 1 from rfl, h_in32 (by omega) (by omega)]
-- slot: sums by hand, of the class and of the model
theorem i_mul {x y : Int} {A B : Nat} (hx : x.natAbs ≤ A) (hy : y.natAbs ≤ B) : (x * y).natAbs ≤ A * B := by
  rw [Int.natAbs_mul]
  exact Nat.mul_le_mul hx hy
theorem i32m {x y : Int32} {A B : Nat} (hx : x.toInt.natAbs ≤ A) (hy : y.toInt.natAbs ≤ B) (h : A * B ≤ 1000000000) : (x * y).toInt = x.toInt * y.toInt ∧ (x * y).toInt.natAbs ≤ A * B := by
  have m := i_mul hx hy
  have e : (x * y).toInt = x.toInt * y.toInt := by
    rw [Int32.toInt_mul]
    exact h_in32 (by omega) (by omega)
  exact ⟨e, by rw [e]; exact m⟩
theorem i32a {x y : Int32} {A B : Nat} (hx : x.toInt.natAbs ≤ A) (hy : y.toInt.natAbs ≤ B) (h : A + B ≤ 1000000000) : (x + y).toInt = x.toInt + y.toInt ∧ (x + y).toInt.natAbs ≤ A + B := by
  have e : (x + y).toInt = x.toInt + y.toInt := by
    rw [Int32.toInt_add]
    exact h_in32 (by omega) (by omega)
  exact ⟨e, by omega⟩
theorem i32s {x y : Int32} {A B : Nat} (hx : x.toInt.natAbs ≤ A) (hy : y.toInt.natAbs ≤ B) (h : A + B ≤ 1000000000) : (x - y).toInt = x.toInt - y.toInt ∧ (x - y).toInt.natAbs ≤ A + B := by
  have e : (x - y).toInt = x.toInt - y.toInt := by
    rw [Int32.toInt_sub]
    exact h_in32 (by omega) (by omega)
  exact ⟨e, by omega⟩
theorem i64m {x y : Int64} {A B : Nat} (hx : x.toInt.natAbs ≤ A) (hy : y.toInt.natAbs ≤ B) (h : A * B ≤ 1000000000000000000) : (x * y).toInt = x.toInt * y.toInt ∧ (x * y).toInt.natAbs ≤ A * B := by
  have m := i_mul hx hy
  have e : (x * y).toInt = x.toInt * y.toInt := by
    rw [Int64.toInt_mul]
    exact h_in64 (by omega) (by omega)
  exact ⟨e, by rw [e]; exact m⟩
theorem i64a {x y : Int64} {A B : Nat} (hx : x.toInt.natAbs ≤ A) (hy : y.toInt.natAbs ≤ B) (h : A + B ≤ 1000000000000000000) : (x + y).toInt = x.toInt + y.toInt ∧ (x + y).toInt.natAbs ≤ A + B := by
  have e : (x + y).toInt = x.toInt + y.toInt := by
    rw [Int64.toInt_add]
    exact h_in64 (by omega) (by omega)
  exact ⟨e, by omega⟩
theorem i64s {x y : Int64} {A B : Nat} (hx : x.toInt.natAbs ≤ A) (hy : y.toInt.natAbs ≤ B) (h : A + B ≤ 1000000000000000000) : (x - y).toInt = x.toInt - y.toInt ∧ (x - y).toInt.natAbs ≤ A + B := by
  have e : (x - y).toInt = x.toInt - y.toInt := by
    rw [Int64.toInt_sub]
    exact h_in64 (by omega) (by omega)
  exact ⟨e, by omega⟩
theorem i64o (x : Int32) {A : Nat} (hx : x.toInt.natAbs ≤ A) : x.toInt64.toInt = x.toInt ∧ x.toInt64.toInt.natAbs ≤ A := by
  have e := Int32.toInt_toInt64 x
  exact ⟨e, by rw [e]; exact hx⟩
def sl_in (a b c d : Int) : Prop := 0 ≤ a ∧ a ≤ 99 ∧ a < b ∧ b ≤ 100 ∧ 1 ≤ d ∧ d ≤ 20 ∧ -d ≤ c ∧ c ≤ d
def sl_up (a b c d : Int) : Int := b * (b * d - a * c)
def sl_dn (a b c d : Int) : Int := d * (b * b + a * a) - 2 * a * b * c
theorem sl_dn_pos {a b c d : Int} (h : sl_in a b c d) : 1 ≤ sl_dn a b c d := by
  obtain ⟨h1, h2, h3, h4, h5, h6, h7, h8⟩ := h
  have e : sl_dn a b c d = d * ((b - a) * (b - a)) + 2 * ((a * b) * (d - c)) := by
    unfold sl_dn
    grind
  have p1 : 0 < d * ((b - a) * (b - a)) := Int.mul_pos (by omega) (Int.mul_pos (by omega) (by omega))
  have p2 : 0 ≤ (a * b) * (d - c) := Int.mul_nonneg (Int.mul_nonneg (by omega) (by omega)) (by omega)
  rw [e]
  omega
def sl_U (a b c d : Int32) : Int64 := b.toInt64 * (b * d - a * c).toInt64
def sl_V (a b c d : Int32) : Int64 := d.toInt64 * (b * b + a * a).toInt64 - Int64.ofInt 2 * a.toInt64 * b.toInt64 * c.toInt64
def sl_U2 (a b c d : Int32) : Int64 := b.toInt64 * b.toInt64 * d.toInt64 - a.toInt64 * b.toInt64 * c.toInt64
def sl_V2 (a b c d : Int32) : Int64 := b.toInt64 * b.toInt64 * d.toInt64 - Int64.ofInt 2 * a.toInt64 * b.toInt64 * c.toInt64 + a.toInt64 * a.toInt64 * d.toInt64
section T44
variable {a b c d : Int32}
theorem sl_bd (h : sl_in a.toInt b.toInt c.toInt d.toInt) : a.toInt.natAbs ≤ 99 ∧ b.toInt.natAbs ≤ 100 ∧ c.toInt.natAbs ≤ 20 ∧ d.toInt.natAbs ≤ 20 := by
  obtain ⟨h1, h2, h3, h4, h5, h6, h7, h8⟩ := h
  omega
theorem sl_U_eq (h : sl_in a.toInt b.toInt c.toInt d.toInt) : (sl_U a b c d).toInt = sl_up a.toInt b.toInt c.toInt d.toInt ∧ (sl_U a b c d).toInt.natAbs ≤ 1000000 := by
  obtain ⟨ha, hb, hc, hd⟩ := sl_bd h
  obtain ⟨e1, m1⟩ := i32m hb hd (by decide)
  obtain ⟨e2, m2⟩ := i32m ha hc (by decide)
  obtain ⟨e3, m3⟩ := i32s m1 m2 (by decide)
  obtain ⟨e4, m4⟩ := i64o _ m3
  obtain ⟨e5, m5⟩ := i64o _ hb
  obtain ⟨e6, m6⟩ := i64m m5 m4 (by decide)
  refine ⟨?_, by unfold sl_U; omega⟩
  unfold sl_U sl_up
  rw [e6, e5, e4, e3, e2, e1]
theorem sl_V_eq (h : sl_in a.toInt b.toInt c.toInt d.toInt) : (sl_V a b c d).toInt = sl_dn a.toInt b.toInt c.toInt d.toInt ∧ (sl_V a b c d).toInt.natAbs ≤ 1000000 := by
  obtain ⟨ha, hb, hc, hd⟩ := sl_bd h
  obtain ⟨e1, m1⟩ := i32m hb hb (by decide)
  obtain ⟨e2, m2⟩ := i32m ha ha (by decide)
  obtain ⟨e3, m3⟩ := i32a m1 m2 (by decide)
  obtain ⟨e4, m4⟩ := i64o _ m3
  obtain ⟨e5, m5⟩ := i64o _ hd
  obtain ⟨e6, m6⟩ := i64m m5 m4 (by decide)
  obtain ⟨a1, n1⟩ := i64o _ ha
  obtain ⟨b1, o1⟩ := i64o _ hb
  obtain ⟨c1, q1⟩ := i64o _ hc
  obtain ⟨e7, m7⟩ := i64m (x := Int64.ofInt 2) (A := 2) (by decide) n1 (by decide)
  obtain ⟨e8, m8⟩ := i64m m7 o1 (by decide)
  obtain ⟨e9, m9⟩ := i64m m8 q1 (by decide)
  obtain ⟨f1, f2⟩ := i64s m6 m9 (by decide)
  refine ⟨?_, by unfold sl_V; omega⟩
  unfold sl_V sl_dn
  rw [f1, e9, e8, e7, e6, e5, e4, e3, e2, e1, a1, b1, c1, show (Int64.ofInt 2).toInt = 2 from rfl]
end T44
/-- the class's slot, up to where it tells -/
theorem sl_x {dp : Nat} {P : g_S → Prop} (hcl : ∀ S, g_pre (g_run dp) 11 9 false 0 0 (g_by 162) P S → P S) (hfull : ∀ r ∈ s_c_162, s_okI (g_by 162) 11 r = true) {T : Value} {a b c d : Int32} {w : g_W}
    (k1 : sl_in a.toInt b.toInt c.toInt d.toInt → P (90, [(7, .long (sl_V a b c d)), (5, .long (sl_U a b c d)), (0, T), (1, .int a), (2, .int b), (3, .int c), (4, .int d)], [], w))
    (k2 : ¬ sl_in a.toInt b.toInt c.toInt d.toInt → P (48, [(0, T), (1, .int a), (2, .int b), (3, .int c), (4, .int d)], [.int (Int32.ofInt (-1))], w)) : P (0, [(0, T), (1, .int a), (2, .int b), (3, .int c), (4, .int d)], [], w) := by
  have k3 : ¬ sl_in a.toInt b.toInt c.toInt d.toInt → P (47, [(0, T), (1, .int a), (2, .int b), (3, .int c), (4, .int d)], [], w) := fun h =>
    t_at_ok hcl hfull (pc := 47) (n := 1) (pc' := 48) (L' := _) (st' := _) rfl (k2 h)
  refine t_at_ok hcl hfull (pc := 0) (n := 1) (pc' := 1) (L' := _) (st' := [.int a]) rfl ?_
  refine t_ifc hcl hfull (cd := .lt) (a := 47) rfl ?_
  rw [h_c1, show h_ci a.toInt 0 .lt = decide (a.toInt < 0) from rfl]
  split
  next e => rw [decide_eq_true_eq] at e; exact k3 (by unfold sl_in; omega)
  next e1 =>
  rw [decide_eq_true_eq] at e1
  refine t_at_ok hcl hfull (pc := 4) (n := 2) (pc' := 7) (L' := _) (st' := [.int (Int8.ofInt 99).toInt32, .int a]) rfl ?_
  refine t_icmp hcl hfull (cd := .gt) (a := 47) rfl ?_
  rw [h_c2, show h_ci a.toInt (Int8.ofInt 99).toInt32.toInt .gt = decide (99 < a.toInt) from rfl]
  split
  next e => rw [decide_eq_true_eq] at e; exact k3 (by unfold sl_in; omega)
  next e2 =>
  rw [decide_eq_true_eq] at e2
  refine t_at_ok hcl hfull (pc := 10) (n := 2) (pc' := 12) (L' := _) (st' := [.int a, .int b]) rfl ?_
  refine t_icmp hcl hfull (cd := .le) (a := 47) rfl ?_
  rw [h_c2, show h_ci b.toInt a.toInt .le = decide (b.toInt ≤ a.toInt) from rfl]
  split
  next e => rw [decide_eq_true_eq] at e; exact k3 (by unfold sl_in; omega)
  next e3 =>
  rw [decide_eq_true_eq] at e3
  refine t_at_ok hcl hfull (pc := 15) (n := 2) (pc' := 18) (L' := _) (st' := [.int (Int8.ofInt 100).toInt32, .int b]) rfl ?_
  refine t_icmp hcl hfull (cd := .gt) (a := 47) rfl ?_
  rw [h_c2, show h_ci b.toInt (Int8.ofInt 100).toInt32.toInt .gt = decide (100 < b.toInt) from rfl]
  split
  next e => rw [decide_eq_true_eq] at e; exact k3 (by unfold sl_in; omega)
  next e4 =>
  rw [decide_eq_true_eq] at e4
  refine t_at_ok hcl hfull (pc := 21) (n := 2) (pc' := 24) (L' := _) (st' := [.int (Int32.ofInt 1), .int d]) rfl ?_
  refine t_icmp hcl hfull (cd := .lt) (a := 47) rfl ?_
  rw [h_c2, show h_ci d.toInt (Int32.ofInt 1).toInt .lt = decide (d.toInt < 1) from rfl]
  split
  next e => rw [decide_eq_true_eq] at e; exact k3 (by unfold sl_in; omega)
  next e5 =>
  rw [decide_eq_true_eq] at e5
  refine t_at_ok hcl hfull (pc := 27) (n := 2) (pc' := 31) (L' := _) (st' := [.int (Int8.ofInt 20).toInt32, .int d]) rfl ?_
  refine t_icmp hcl hfull (cd := .gt) (a := 47) rfl ?_
  rw [h_c2, show h_ci d.toInt (Int8.ofInt 20).toInt32.toInt .gt = decide (20 < d.toInt) from rfl]
  split
  next e => rw [decide_eq_true_eq] at e; exact k3 (by unfold sl_in; omega)
  next e6 =>
  rw [decide_eq_true_eq] at e6
  have en : (-d).toInt = -d.toInt := by
    rw [Int32.toInt_neg]
    exact h_in32 (by omega) (by omega)
  refine t_at_ok hcl hfull (pc := 34) (n := 3) (pc' := 38) (L' := _) (st' := [.int (-d), .int c]) rfl ?_
  refine t_icmp hcl hfull (cd := .lt) (a := 47) rfl ?_
  rw [h_c2, show h_ci c.toInt (-d).toInt .lt = decide (c.toInt < (-d).toInt) from rfl, en]
  split
  next e => rw [decide_eq_true_eq] at e; exact k3 (by unfold sl_in; omega)
  next e7 =>
  rw [decide_eq_true_eq] at e7
  refine t_at_ok hcl hfull (pc := 41) (n := 2) (pc' := 44) (L' := _) (st' := [.int d, .int c]) rfl ?_
  refine t_icmp hcl hfull (cd := .le) (a := 49) rfl ?_
  rw [h_c2, show h_ci c.toInt d.toInt .le = decide (c.toInt ≤ d.toInt) from rfl]
  split
  next e8 =>
    rw [decide_eq_true_eq] at e8
    refine t_at_ok hcl hfull (pc := 49) (n := 35) (pc' := 90) (L' := _) (st' := _) rfl ?_
    exact k1 (by unfold sl_in; omega)
  next e => rw [decide_eq_true_eq] at e; exact k3 (by unfold sl_in; omega)
-- slot: the model's walk, the ends of both
theorem h_iret {j : Nat} {q : s_MI} (hq : s_mi[j]? = some q) (hrt : q.2.1 = 1) {full : List s_I} (hfull : ∀ r ∈ full, s_okI (g_by j) q.2.2.2.2.2 r = true) {pc kd a k : Nat} {v0 : Int} (h : t_r full pc = some (pc, 1, 40, kd, a, k, v0, .ireturn)) {bc bs cn sn : Nat} (hc : cn ≤ bc) (hs : sn ≤ bs) {post : Option Value → g_H → Prop} {x : Int32} {L : g_L} {hh : g_H} (kk : post (some (.int x)) hh) : g_end (g_by j) (g_rt j) bc bs post (pc, L, [.int x], cn, sn, hh) := by
  obtain ⟨⟨n, hd, hlen, hne⟩, hQ, hlk⟩ := s_okI_eq (t_r_ok hfull h) (by omega)
  subst hlen
  have m3 := (s_mi_ok j q hq).2.2.1
  rw [hrt] at m3
  exact ⟨hc, hs, Or.inl ⟨x, .int, hd, m3, rfl, rfl, kk⟩⟩
/-- more, less, as much -/
def sl_sg (u v : Int) : Int := if v < u then 1 else if u < v then 2 else 0
theorem h_mol {dp : Nat} {h : g_H} {x : Int64} {post : Option Value → g_H → Prop} (k : post (some (.int (Int32.ofInt (sl_sg x.toInt 0)))) h) : g_run (dp + 1) 131 [.long x] h 0 0 post := by
  have hq : s_mi[131]? = some (2, 1, false, 0, 0, 11) := by decide +kernel
  have hfull := h_full hq (t := s_c_131) rfl
  refine h_meth hq (by show 2 ≤ 2; decide) ?_
  intro P hpost hcl
  refine t_at_ok hcl hfull (pc := 0) (n := 3) (pc' := 3) (L' := [(0, .long x)]) (st' := [.int (lg_cmp x (Int64.ofNat 0))]) rfl ?_
  refine t_ifc hcl hfull (cd := .ne) (a := 8) rfl ?_
  rw [h_cl, show h_ci x.toInt (Int64.ofNat 0).toInt .ne = decide (¬ x.toInt = 0) from rfl]
  unfold sl_sg at k
  split
  next e =>
    rw [decide_eq_true_eq] at e
    refine t_at_ok hcl hfull (pc := 8) (n := 3) (pc' := 11) (L' := [(0, .long x)]) (st' := [.int (lg_cmp x (Int64.ofNat 0))]) rfl ?_
    refine t_ifc hcl hfull (cd := .le) (a := 18) rfl ?_
    rw [h_cl, show h_ci x.toInt (Int64.ofNat 0).toInt .le = decide (x.toInt ≤ 0) from rfl]
    split
    next e1 =>
      rw [decide_eq_true_eq] at e1
      rw [if_neg (by omega), if_pos (by omega)] at k
      refine t_at_ok hcl hfull (pc := 18) (n := 1) (pc' := 19) (L' := [(0, .long x)]) (st' := [.int (Int32.ofInt 2)]) rfl ?_
      exact hpost _ (h_iret hq rfl hfull rfl (Nat.le_refl _) (Nat.le_refl _) k)
    next e1 =>
      rw [decide_eq_true_eq] at e1
      rw [if_pos (by omega)] at k
      refine t_at_ok hcl hfull (pc := 14) (n := 1) (pc' := 15) (L' := [(0, .long x)]) (st' := [.int (Int32.ofInt 1)]) rfl ?_
      refine t_goto hcl hfull (a := 19) rfl ?_
      exact hpost _ (h_iret hq rfl hfull rfl (Nat.le_refl _) (Nat.le_refl _) k)
  next e =>
    rw [decide_eq_true_eq] at e
    rw [if_neg (by omega), if_neg (by omega)] at k
    refine t_at_ok hcl hfull (pc := 6) (n := 1) (pc' := 7) (L' := [(0, .long x)]) (st' := [.int (Int32.ofInt 0)]) rfl ?_
    exact hpost _ (h_iret hq rfl hfull rfl (Nat.le_refl _) (Nat.le_refl _) k)
/-- the class's slot, behind what it tells -/
theorem sl_xe {dp : Nat} {P : g_S → Prop} (hcl : ∀ S, g_pre (g_run (dp + 1)) 11 9 false 0 0 (g_by 162) P S → P S) (hfull : ∀ r ∈ s_c_162, s_okI (g_by 162) 11 r = true) {u v : Int64} {Lr : g_L} {h : g_H} (hu : u.toInt.natAbs ≤ 1000000) (hv : v.toInt.natAbs ≤ 2000000)
    (k : P (116, (7, .long v) :: (5, .long u) :: Lr, [.int (Int32.ofInt (sl_sg u.toInt v.toInt))], 0, 0, h)) : P (108, (7, .long v) :: (5, .long u) :: Lr, [], 0, 0, h) := by
  refine t_at_ok hcl hfull (pc := 108) (n := 3) (pc' := 113) (L' := (7, .long v) :: (5, .long u) :: Lr) (st' := [.long (u - v)]) rfl ?_
  refine t_stat hcl hfull (a := 131) rfl (Or.inl rfl) [.long (u - v)] rfl (by decide) (mc := 0) (ms := 0) (Nat.le_refl _) (Nat.le_refl _) (rest := []) ?_ rfl
  refine h_mol ?_
  have e := (i64s hu hv (by decide)).1
  have e2 : sl_sg (u - v).toInt 0 = sl_sg u.toInt v.toInt := by
    unfold sl_sg
    rw [e]
    by_cases c1 : v.toInt < u.toInt
    · rw [if_pos c1, if_pos (by omega)]
    · rw [if_neg c1, if_neg (by omega)]
      by_cases c2 : u.toInt < v.toInt
      · rw [if_pos c2, if_pos (by omega)]
      · rw [if_neg c2, if_neg (by omega)]
  rw [e2]
  exact k
/-- a long that is told by its name -/
theorem iv_nmL {W : y_W} {β : Nat → Int} {lo hi : Int} {ku : Nat} {cu : Int} {n : Nat} {x : Value} (h0 : n ≠ 0) {u : Int64} (hb : β n = u.toInt) (h : y_g W β (1, lo, hi, n, 0, ku, cu) x) : x = .long u := by
  obtain ⟨m, rfl, -, -, h1, -⟩ := h
  have h2 : m.toInt = β n + 0 := h1 h0
  rw [Int64.toInt_inj.mp (show m.toInt = u.toInt by omega)]
theorem iv_nmI {W : y_W} {β : Nat → Int} {lo hi : Int} {ku : Nat} {cu : Int} {n : Nat} {x : Value} (h0 : n ≠ 0) {u : Int32} (hb : β n = u.toInt) (h : y_g W β (0, lo, hi, n, 0, ku, cu) x) : x = .int u := by
  obtain ⟨m, rfl, -, -, h1, -⟩ := h
  have h2 : m.toInt = β n + 0 := h1 h0
  rw [Int32.toInt_inj.mp (show m.toInt = u.toInt by omega)]
def iv_isN (kd n : Nat) (o : Option y_V) : Bool := match o with
  | some (t, _, _, k, c, _, _) => Nat.beq t kd && (Nat.beq k n && decide (c = 0))
  | none => false
theorem iv_isN_ok {kd n : Nat} {L : y_L} {i : Nat} {W : y_W} {β : Nat → Int} {Ls : g_L} (hL : y_gL W β L Ls) (hlt : i < 200000) (h : iv_isN kd n (y_find L i) = true) : ∃ lo hi ku cu x, (i, x) ∈ Ls ∧ y_g W β (kd, lo, hi, n, 0, ku, cu) x := by
  unfold iv_isN at h
  split at h
  next t lo hi k c ku cu e =>
    simp only [Bool.and_eq_true, Nat.beq_eq, decide_eq_true_eq] at h
    obtain ⟨rfl, rfl, rfl⟩ := h
    obtain ⟨x, h1, h2⟩ := hL _ (y_find_in e)
    exact ⟨lo, hi, ku, cu, x, h1.1 hlt, h2⟩
  next => cases h
def iv_slot (a b c d : Int) : Int := if 0 ≤ a ∧ a ≤ 99 ∧ a < b ∧ b ≤ 100 ∧ 1 ≤ d ∧ d ≤ 20 ∧ -d ≤ c ∧ c ≤ d then sl_sg (sl_up a b c d) (sl_dn a b c d) else -1
def iv_s108 : List s_I := t_stop [108] s_c_162
def iv_s90 : Bool := match s_jump iv_s108 90 with
  | some c => (match y_run y_Rc s_ft s_mi (y_Kc 59) [] iv_s108 9 1000 [] (c, [(7, (1, -1000000, 1000000, 100007, 0, 0, 0)), (5, (1, -1000000, 1000000, 100005, 0, 0, 0)), (0, (2, 0, 0, 0, 0, 0, 0))], []) with
    | some ls => ls.all (fun Y => match Y with
      | (r :: _, L, st) => Nat.beq r.1 108 && (st.isEmpty && (iv_isN 1 100007 (y_find L 7) && iv_isN 1 100005 (y_find L 5)))
      | _ => false)
    | none => false)
  | none => false
set_option maxRecDepth 100000 in
theorem iv_s90_ok : iv_s90 = true := by decide +kernel
theorem iv_slotX (A : Nat → Nat) (h : g_H) (a b c d : Int32) (hI : iv_inv A h) : g_run 60 162 [.ref (A 0), .int a, .int b, .int c, .int d] h 0 0 (fun r h' => r = some (.int (Int32.ofInt (iv_slot a.toInt b.toInt c.toInt d.toInt))) ∧ iv_inv A h') := by
  obtain ⟨q1, q2, q3, q4, q5⟩ := s_mi_ok 162 (9, 1, false, 0, 0, 11) (by decide +kernel)
  obtain ⟨c1, c2⟩ := s_codes_ok 162 (9, 1, false, 0, 0, 11) (by decide +kernel)
  rw [show s_codes.getD 162 [] = s_c_162 from rfl] at c1 c2
  have q3 : g_rt 162 = some .int := q3
  refine ⟨q1, by rw [q2]; exact (show 5 ≤ 9 by decide), ?_⟩
  rw [q5, q2, q4]
  intro P hend hcl
  have ret : ∀ {pc len kd a9 k : Nat} {v0 : Int} {ins : Instr} {Ls : g_L} {x : Int32} {h' : g_H}, s_okI (g_by 162) 11 (pc, len, 40, kd, a9, k, v0, ins) = true → x = Int32.ofInt (iv_slot a.toInt b.toInt c.toInt d.toInt) → iv_inv A h' → P (pc, Ls, [.int x], 0, 0, h') := by
    intro pc len kd a9 k v0 ins Ls x h' hok hv hI'
    exact hend _ ⟨Nat.le_refl _, Nat.le_refl _, Or.inl ⟨x, .int, iv_ireturn hok, q3, rfl, rfl, by rw [hv], hI'⟩⟩
  show P (0, [(0, .ref (A 0)), (1, .int a), (2, .int b), (3, .int c), (4, .int d)], [], 0, 0, h)
  refine sl_x (dp := 59) hcl c2 (w := (0, 0, h)) (T := .ref (A 0)) (fun hin => ?_) (fun hn => ?_)
  · obtain ⟨u1, u2⟩ := sl_U_eq hin
    obtain ⟨v1, v2⟩ := sl_V_eq hin
    generalize sl_U a b c d = U at u1 u2
    generalize sl_V a b c d = V at v1 v2
    have hval : iv_slot a.toInt b.toInt c.toInt d.toInt = sl_sg U.toInt V.toInt := by
      rw [u1, v1]
      exact if_pos hin
    have hb := iv_s90_ok
    unfold iv_s90 at hb
    split at hb
    next c9 ec =>
      split at hb
      next ls el =>
        have hj := s_jump_mem ec
        have ct2 : ∀ r ∈ iv_s108, s_okI (g_by 162) 11 r = true := t_stop_ok c2
        obtain ⟨⟨W, β, hH, hW⟩, M, hM, hInv⟩ := hI
        obtain ⟨k1, k2⟩ := y_run_ok (φ := iv_ct h) (P := P) hcl y_Rc_ok s_ft_ok s_mi_ok (y_Kc_ok 59) ct2 1000 [] _ ls el (fun q hq => ct2 q (hj.2 q hq)) (fun g hg => by cases hg)
        have hH2 : y_H (iv_ct h) y_Rc W (fun k => if k = 100007 then V.toInt else if k = 100005 then U.toInt else β k) h := y_H_b y_Rc_ok (fun k hk => by
          show (if k = 100007 then V.toInt else if k = 100005 then U.toInt else β k) = β k
          rw [if_neg (by omega), if_neg (by omega)]) hH
        have key := k2 W _ h [(7, .long V), (5, .long U), (0, .ref (A 0)), (1, .int a), (2, .int b), (3, .int c), (4, .int d)] [] hH2 (fun q hq => ?_) trivial (fun g hg => by cases hg) (fun Y hY => ?_)
        · rw [show s_pc c9 = 90 from hj.1] at key
          exact key
        · have hq : q ∈ [((7, (1, -1000000, 1000000, 100007, 0, 0, 0)) : Nat × y_V), (5, (1, -1000000, 1000000, 100005, 0, 0, 0)), (0, (2, 0, 0, 0, 0, 0, 0))] := hq
          simp only [List.mem_cons, List.not_mem_nil, or_false] at hq
          rcases hq with rfl | rfl | rfl
          · exact iv_gL (by decide) (List.mem_cons_self) ⟨V, rfl, by show (-1000000 : Int) ≤ V.toInt; omega, by show V.toInt ≤ 1000000; omega, fun _ => (Int.add_zero _).symm, fun h => absurd rfl h⟩
          · exact iv_gL (by decide) (List.mem_cons_of_mem _ List.mem_cons_self) ⟨U, rfl, by show (-1000000 : Int) ≤ U.toInt; omega, by show U.toInt ≤ 1000000; omega, fun _ => (Int.add_zero _).symm, fun h => absurd rfl h⟩
          · exact iv_gL (by decide) (List.mem_cons_of_mem _ (List.mem_cons_of_mem _ List.mem_cons_self)) ⟨0, A 0, rfl, hW 0 0 rfl⟩
        · have hbY := List.all_eq_true.mp hb Y hY
          intro W' β' h' Ls' sts' hWW hb9 hH' hL9 hS
          obtain ⟨c8, L, st⟩ := Y
          cases c8 with
          | nil => cases hbY
          | cons r t =>
            simp only [Bool.and_eq_true, Nat.beq_eq, List.isEmpty_iff] at hbY
            obtain ⟨r1, rfl, n7, n5⟩ := hbY
            cases sts' with
            | cons _ _ => exact hS.elim
            | nil =>
              obtain ⟨_, _, _, _, y7, m7, g7⟩ := iv_isN_ok hL9 (by decide) n7
              obtain ⟨_, _, _, _, y5, m5, g5⟩ := iv_isN_ok hL9 (by decide) n5
              have e7 := iv_nmL (u := V) (by decide) (by rw [hb9 100007 (by decide) (by decide)]; rfl) g7
              have e5 := iv_nmL (u := U) (by decide) (by rw [hb9 100005 (by decide) (by decide)]; rfl) g5
              subst e7 e5
              have hI' := iv_back hW hM hInv hWW hH'
              show P (r.1, Ls', [], 0, 0, h')
              rw [r1]
              refine hcl _ ⟨_, _, iv_dec (c2 _ (iv_in (c := []) (pc := 108) rfl)) (by decide) (by decide), Or.inl (Or.inr (Or.inl ⟨5, _, _, rfl, m5, rfl, ?_⟩))⟩
              refine hcl _ ⟨_, _, iv_dec (c2 _ (iv_in (c := []) (pc := 110) rfl)) (by decide) (by decide), Or.inl (Or.inr (Or.inl ⟨7, _, _, rfl, m7, rfl, ?_⟩))⟩
              refine t_at_ok hcl c2 (n := 1) (pc := 112) (pc' := 113) (L' := Ls') (st' := [.long (U - V)]) rfl ?_
              refine iv_stat hcl (c2 _ (iv_in (c := []) (pc := 113) rfl)) (as := [.long (U - V)]) (rest := []) rfl (by decide) (Nat.le_refl _) (Nat.le_refl _) ?_
              refine h_mol (dp := 58) ?_
              refine ret (c2 _ (iv_in (c := []) (pc := 116) rfl)) ?_ hI'
              have e := (i64s u2 v2 (by decide)).1
              rw [hval]
              congr 1
              unfold sl_sg
              rw [e]
              by_cases d1 : V.toInt < U.toInt
              · rw [if_pos d1, if_pos (by omega)]
              · rw [if_neg d1, if_neg (by omega)]
                by_cases d2 : U.toInt < V.toInt
                · rw [if_pos d2, if_pos (by omega)]
                · rw [if_neg d2, if_neg (by omega)]
      next => cases hb
    next => cases hb
  · exact ret (c2 _ (iv_in (c := []) (pc := 48) rfl)) (congrArg Int32.ofInt (show iv_slot a.toInt b.toInt c.toInt d.toInt = -1 from if_neg hn).symm) hI
theorem sl_v0 {u v : Int} (h : u ≤ v ∧ v ≤ u) : sl_sg u v = 0 := by
  unfold sl_sg
  rw [if_neg (by omega), if_neg (by omega)]
theorem sl_v1 {u v : Int} (h : v < u) : sl_sg u v = 1 := if_pos h
theorem sl_v2 {u v : Int} (h : u < v) : sl_sg u v = 2 := by
  unfold sl_sg
  rw [if_neg (by omega), if_pos h]
theorem ms_slotF {A : Nat → Nat} {h0 : g_H} {d : Nat} {M : xa_M} {post : Option xa_V → xa_M → Prop} {l1 u1 l2 u2 l3 u3 l4 u4 : Int} {a b c e : Int} (hI : xm_Inv M) (k : ∀ (r : Int) (M1 : xa_M), r = iv_slot a b c e → xm_cor M M1 → post (some (0, 0, r, r, r)) M1) : xa_C xm_I A h0 (d + 4) 270 [(2, 60, 0, 0, 0), (0, 0, l1, u1, a), (0, 0, l2, u2, b), (0, 0, l3, u3, c), (0, 0, l4, u4, e)] M post := by
  refine xa_C_arg [(2, 60, 0, 0, 0), (0, 0, (-2147483648), 2147483647, a), (0, 0, (-2147483648), 2147483647, b), (0, 0, (-2147483648), 2147483647, c), (0, 0, (-2147483648), 2147483647, e)] (xa_svR (xa_svI (fun _ _ _ _ => by omega) (xa_svI (fun _ _ _ _ => by omega) (xa_svI (fun _ _ _ _ => by omega) (xa_svI (fun _ _ _ _ => by omega) xa_sv0))))) ?_
  refine xa_meth (Q0 := (9, 1, false, 0, 0, 12)) (by decide +kernel) ⟨rfl, rfl⟩ (full := s_c_270) rfl rfl ?_
  intro hM hv Q hgo
  have und : 0 ≤ a → a < b → b ≤ 100 → 1 ≤ e → e ≤ 20 → -e ≤ c → c ≤ e → 1 ≤ b * b * e - 2 * a * b * c + a * a * e := by
    intro h1 h2 h3 h4 h5 h6 h7
    have hab : 0 ≤ a * b := Int.mul_nonneg h1 (by omega)
    have k1 : a * b * c ≤ a * b * e := Int.mul_le_mul_of_nonneg_left h7 hab
    have k2 : 1 ≤ (b - a) * (b - a) := (xm_mulp (p := b - a) (q := b - a) (a := 100) (b := 100) (by omega) (by omega) (by omega) (by omega)).1
    have k3 : 1 ≤ (b - a) * (b - a) * e := by
      have := Int.mul_pos (show 0 < (b - a) * (b - a) by omega) (show 0 < e by omega)
      omega
    have k4 : (b - a) * (b - a) * e = b * b * e - 2 * (a * b * e) + a * a * e := by
      simp only [Int.sub_mul, Int.mul_sub, Int.mul_comm b a]
      omega
    have k5 : 2 * a * b * c = 2 * (a * b * c) := by
      rw [Int.mul_assoc 2 a b, Int.mul_assoc 2 (a * b) c]
    omega
  have e1 : sl_up a b c e = (b * b) * e - (a * b) * c := by
    unfold sl_up
    grind
  have e2 : sl_dn a b c e = ((b * b) * e - ((2 * a) * b) * c) + (a * a) * e := by
    unfold sl_dn
    grind
  have yes : ∀ r : Int, (0 ≤ a ∧ a ≤ 99 ∧ a < b ∧ b ≤ 100 ∧ 1 ≤ e ∧ e ≤ 20 ∧ -e ≤ c ∧ c ≤ e) → sl_sg ((b * b) * e - (a * b) * c) (((b * b) * e - ((2 * a) * b) * c) + (a * a) * e) = r → r = iv_slot a b c e := fun r hc hr => by
    rw [show iv_slot a b c e = sl_sg (sl_up a b c e) (sl_dn a b c e) from if_pos hc, e1, e2, hr]
  refine hgo.1 25 [37] 0 _ _ _ ?_
  show xa_C xm_I A h0 _ 214 [(0, 0, (-2147483648), 2147483647, a), (0, 0, 0, 0, 0), (0, 0, 99, 99, 99)] (xa_up M 60 21 0) _
  refine ct_in ?_ ?_
  · intro (i1 : 0 ≤ a ∧ a ≤ 99)
    refine And.intro ?_ ?_
    · intro (c2 : b ≤ a)
      show post (some (0, 0, (-1), (-1), (-1))) (xa_up M 60 21 0)
      exact k (-1) _ ((if_neg (by omega)).symm) (xm_cor_f (by omega) xm_cor_r)
    · intro (c2 : a < b)
      refine And.intro ?_ ?_
      · intro (c3 : 100 < b)
        show post (some (0, 0, (-1), (-1), (-1))) (xa_up M 60 21 0)
        exact k (-1) _ ((if_neg (by omega)).symm) (xm_cor_f (by omega) xm_cor_r)
      · intro (c3 : b ≤ 100)
        show xa_C xm_I A h0 _ 214 [(0, 0, (-2147483648), 2147483647, e), (0, 0, 1, 1, 1), (0, 0, 20, 20, 20)] (xa_up M 60 21 0) _
        refine ct_in ?_ ?_
        · intro (i4 : 1 ≤ e ∧ e ≤ 20)
          show Q 37 [(0, (2, 60, 0, 0, 0)), (1, (0, 0, (-2147483648), 2147483647, a)), (2, (0, 0, (-2147483648), 2147483647, b)), (3, (0, 0, (-2147483648), 2147483647, c)), (4, (0, 0, (-2147483648), 2147483647, e))] [] (xa_up M 60 21 0)
          refine hgo.2.1 37 _ [(0, (2, 60, 0, 0, 0)), (1, (0, 0, (-2147483648), 2147483647, a)), (2, (0, 0, (-2147483648), 2147483647, b)), (3, (0, 0, (-2147483648), 2147483647, c)), (4, (0, 0, 1, 20, e))] _ _ (xa_subR rfl (xa_subI rfl rfl (fun _ _ _ _ => by omega) (xa_subI rfl rfl (fun _ _ _ _ => by omega) (xa_subI rfl rfl (fun _ _ _ _ => by omega) (xa_subI rfl rfl (fun _ _ _ _ => by omega) xa_sub0))))) ?_
          refine hgo.1 12 [51] 37 _ _ _ ?_
          show xa_C xm_I A h0 _ 214 [(0, 0, (-2147483648), 2147483647, c), (0, 0, (-20), (-1), -e), (0, 0, 1, 20, e)] (xa_up M 60 21 0) _
          refine ct_in ?_ ?_
          · intro (i105 : (-e) ≤ c ∧ c ≤ e)
            show Q 51 [(0, (2, 60, 0, 0, 0)), (1, (0, 0, (-2147483648), 2147483647, a)), (2, (0, 0, (-2147483648), 2147483647, b)), (3, (0, 0, (-2147483648), 2147483647, c)), (4, (0, 0, 1, 20, e))] [] (xa_up M 60 21 0)
            refine hgo.2.1 51 _ [(0, (2, 60, 0, 0, 0)), (1, (0, 0, 0, 99, a)), (2, (0, 0, 1, 100, b)), (3, (0, 0, (-20), 20, c)), (4, (0, 0, 1, 20, e))] _ _ (xa_subR rfl (xa_subI rfl rfl (fun _ _ _ _ => by omega) (xa_subI rfl rfl (fun _ _ _ _ => by omega) (xa_subI rfl rfl (fun _ _ _ _ => by omega) (xa_subI rfl rfl (fun _ _ _ _ => by omega) xa_sub0))))) ?_
            have und1 := und (by omega) (by omega) (by omega) (by omega) (by omega) (by omega) (by omega)
            refine hgo.1 10 [56, 60, 65, 68, 69, 76, 80, 86, 89, 92, 93, 98, 102, 103] 51 _ _ _ ?_
            show Q 56 [(0, (2, 60, 0, 0, 0)), (1, (0, 0, 0, 99, a)), (2, (0, 0, 1, 100, b)), (3, (0, 0, (-20), 20, c)), (4, (0, 0, 1, 20, e))] [(1, 0, 1, 10000, b * b)] (xa_up M 60 21 0)
            refine hgo.1 8 [56, 60, 65, 68, 69, 76, 80, 86, 89, 92, 93, 98, 102, 103] 56 _ _ _ ?_
            show Q 60 [(0, (2, 60, 0, 0, 0)), (1, (0, 0, 0, 99, a)), (2, (0, 0, 1, 100, b)), (3, (0, 0, (-20), 20, c)), (4, (0, 0, 1, 20, e))] [(1, 0, 1, 200000, (b * b) * e)] (xa_up M 60 21 0)
            refine hgo.1 10 [56, 60, 65, 68, 69, 76, 80, 86, 89, 92, 93, 98, 102, 103] 60 _ _ _ ?_
            show Q 65 [(0, (2, 60, 0, 0, 0)), (1, (0, 0, 0, 99, a)), (2, (0, 0, 1, 100, b)), (3, (0, 0, (-20), 20, c)), (4, (0, 0, 1, 20, e))] [(1, 0, 0, 9900, a * b), (1, 0, 1, 200000, (b * b) * e)] (xa_up M 60 21 0)
            refine hgo.1 8 [56, 60, 65, 68, 69, 76, 80, 86, 89, 92, 93, 98, 102, 103] 65 _ _ _ ?_
            show Q 68 [(0, (2, 60, 0, 0, 0)), (1, (0, 0, 0, 99, a)), (2, (0, 0, 1, 100, b)), (3, (0, 0, (-20), 20, c)), (4, (0, 0, 1, 20, e))] [(1, 0, (-198000), 198000, (a * b) * c), (1, 0, 1, 200000, (b * b) * e)] (xa_up M 60 21 0)
            refine hgo.1 6 [56, 60, 65, 68, 69, 76, 80, 86, 89, 92, 93, 98, 102, 103] 68 _ _ _ ?_
            show Q 69 [(0, (2, 60, 0, 0, 0)), (1, (0, 0, 0, 99, a)), (2, (0, 0, 1, 100, b)), (3, (0, 0, (-20), 20, c)), (4, (0, 0, 1, 20, e))] [(1, 0, (-197999), 398000, ((b * b) * e) - ((a * b) * c))] (xa_up M 60 21 0)
            refine hgo.1 11 [56, 60, 65, 68, 69, 76, 80, 86, 89, 92, 93, 98, 102, 103] 69 _ _ _ ?_
            show Q 76 [(5, (1, 0, (-197999), 398000, ((b * b) * e) - ((a * b) * c))), (0, (2, 60, 0, 0, 0)), (1, (0, 0, 0, 99, a)), (2, (0, 0, 1, 100, b)), (3, (0, 0, (-20), 20, c)), (4, (0, 0, 1, 20, e))] [(1, 0, 1, 10000, b * b)] (xa_up M 60 21 0)
            refine hgo.1 8 [56, 60, 65, 68, 69, 76, 80, 86, 89, 92, 93, 98, 102, 103] 76 _ _ _ ?_
            show Q 80 [(5, (1, 0, (-197999), 398000, ((b * b) * e) - ((a * b) * c))), (0, (2, 60, 0, 0, 0)), (1, (0, 0, 0, 99, a)), (2, (0, 0, 1, 100, b)), (3, (0, 0, (-20), 20, c)), (4, (0, 0, 1, 20, e))] [(1, 0, 1, 200000, (b * b) * e)] (xa_up M 60 21 0)
            refine hgo.1 9 [56, 60, 65, 68, 69, 76, 80, 86, 89, 92, 93, 98, 102, 103] 80 _ _ _ ?_
            show Q 86 [(5, (1, 0, (-197999), 398000, ((b * b) * e) - ((a * b) * c))), (0, (2, 60, 0, 0, 0)), (1, (0, 0, 0, 99, a)), (2, (0, 0, 1, 100, b)), (3, (0, 0, (-20), 20, c)), (4, (0, 0, 1, 20, e))] [(1, 0, 0, 198, 2 * a), (1, 0, 1, 200000, (b * b) * e)] (xa_up M 60 21 0)
            refine hgo.1 8 [56, 60, 65, 68, 69, 76, 80, 86, 89, 92, 93, 98, 102, 103] 86 _ _ _ ?_
            show Q 89 [(5, (1, 0, (-197999), 398000, ((b * b) * e) - ((a * b) * c))), (0, (2, 60, 0, 0, 0)), (1, (0, 0, 0, 99, a)), (2, (0, 0, 1, 100, b)), (3, (0, 0, (-20), 20, c)), (4, (0, 0, 1, 20, e))] [(1, 0, 0, 19800, (2 * a) * b), (1, 0, 1, 200000, (b * b) * e)] (xa_up M 60 21 0)
            refine hgo.1 8 [56, 60, 65, 68, 69, 76, 80, 86, 89, 92, 93, 98, 102, 103] 89 _ _ _ ?_
            show Q 92 [(5, (1, 0, (-197999), 398000, ((b * b) * e) - ((a * b) * c))), (0, (2, 60, 0, 0, 0)), (1, (0, 0, 0, 99, a)), (2, (0, 0, 1, 100, b)), (3, (0, 0, (-20), 20, c)), (4, (0, 0, 1, 20, e))] [(1, 0, (-396000), 396000, ((2 * a) * b) * c), (1, 0, 1, 200000, (b * b) * e)] (xa_up M 60 21 0)
            refine hgo.1 6 [56, 60, 65, 68, 69, 76, 80, 86, 89, 92, 93, 98, 102, 103] 92 _ _ _ ?_
            show Q 93 [(5, (1, 0, (-197999), 398000, ((b * b) * e) - ((a * b) * c))), (0, (2, 60, 0, 0, 0)), (1, (0, 0, 0, 99, a)), (2, (0, 0, 1, 100, b)), (3, (0, 0, (-20), 20, c)), (4, (0, 0, 1, 20, e))] [(1, 0, (-395999), 596000, ((b * b) * e) - (((2 * a) * b) * c))] (xa_up M 60 21 0)
            refine hgo.1 10 [56, 60, 65, 68, 69, 76, 80, 86, 89, 92, 93, 98, 102, 103] 93 _ _ _ ?_
            show Q 98 [(5, (1, 0, (-197999), 398000, ((b * b) * e) - ((a * b) * c))), (0, (2, 60, 0, 0, 0)), (1, (0, 0, 0, 99, a)), (2, (0, 0, 1, 100, b)), (3, (0, 0, (-20), 20, c)), (4, (0, 0, 1, 20, e))] [(1, 0, 0, 9801, a * a), (1, 0, (-395999), 596000, ((b * b) * e) - (((2 * a) * b) * c))] (xa_up M 60 21 0)
            refine hgo.1 8 [56, 60, 65, 68, 69, 76, 80, 86, 89, 92, 93, 98, 102, 103] 98 _ _ _ ?_
            show Q 102 [(5, (1, 0, (-197999), 398000, ((b * b) * e) - ((a * b) * c))), (0, (2, 60, 0, 0, 0)), (1, (0, 0, 0, 99, a)), (2, (0, 0, 1, 100, b)), (3, (0, 0, (-20), 20, c)), (4, (0, 0, 1, 20, e))] [(1, 0, 0, 196020, (a * a) * e), (1, 0, (-395999), 596000, ((b * b) * e) - (((2 * a) * b) * c))] (xa_up M 60 21 0)
            refine hgo.1 6 [56, 60, 65, 68, 69, 76, 80, 86, 89, 92, 93, 98, 102, 103] 102 _ _ _ ?_
            show Q 103 [(5, (1, 0, (-197999), 398000, ((b * b) * e) - ((a * b) * c))), (0, (2, 60, 0, 0, 0)), (1, (0, 0, 0, 99, a)), (2, (0, 0, 1, 100, b)), (3, (0, 0, (-20), 20, c)), (4, (0, 0, 1, 20, e))] [(1, 0, (-395999), 792020, (((b * b) * e) - (((2 * a) * b) * c)) + ((a * a) * e))] (xa_up M 60 21 0)
            refine hgo.1 21 [56, 60, 65, 68, 69, 76, 80, 86, 89, 92, 93, 98, 102, 103] 103 _ _ _ ?_
            show xa_C xm_I A h0 _ 230 [(2, 60, 0, 0, 0), (1, 0, (-197999), 398000, ((b * b) * e) - ((a * b) * c)), (1, 0, (-395999), 792020, (((b * b) * e) - (((2 * a) * b) * c)) + ((a * a) * e))] (xa_up (xa_up M 60 21 0) 60 20 0) _
            refine ct_tellPart (n := 0) (by first | rfl | (simp [xa_up]; done)) (by decide) (by decide) (by decide) (by omega) (fun g486 eg486 pg486 qg486 => ?_)
            refine And.intro ?_ ?_
            · intro (c487 : (((b * b) * e) - ((a * b) * c)) ≤ ((((b * b) * e) - (((2 * a) * b) * c)) + ((a * a) * e)))
              refine And.intro ?_ ?_
              · intro (c488 : ((((b * b) * e) - (((2 * a) * b) * c)) + ((a * a) * e)) ≤ (((b * b) * e) - ((a * b) * c)))
                show post (some (0, 0, 0, 0, 0)) (xa_up (xa_up (xa_up (xa_up (xa_up (xa_up M 60 21 0) 60 20 0) 74 0 ((((b * b) * e) - ((a * b) * c)).tdiv g486)) 60 20 1) 74 1 (((((b * b) * e) - (((2 * a) * b) * c)) + ((a * a) * e)).tdiv g486)) 60 20 2)
                exact k 0 _ (yes 0 (by omega) (sl_v0 (by omega))) (xm_cor_f (by omega) (xm_cor_a rfl (xm_cor_f (by omega) (xm_cor_a rfl (xm_cor_f (by omega) (xm_cor_f (by omega) xm_cor_r))))))
              · intro (c488 : (((b * b) * e) - ((a * b) * c)) < ((((b * b) * e) - (((2 * a) * b) * c)) + ((a * a) * e)))
                show post (some (0, 0, 2, 2, 2)) (xa_up (xa_up (xa_up (xa_up (xa_up (xa_up M 60 21 0) 60 20 0) 74 0 ((((b * b) * e) - ((a * b) * c)).tdiv g486)) 60 20 1) 74 1 (((((b * b) * e) - (((2 * a) * b) * c)) + ((a * a) * e)).tdiv g486)) 60 20 2)
                exact k 2 _ (yes 2 (by omega) (sl_v2 (by omega))) (xm_cor_f (by omega) (xm_cor_a rfl (xm_cor_f (by omega) (xm_cor_a rfl (xm_cor_f (by omega) (xm_cor_f (by omega) xm_cor_r))))))
            · intro (c487 : ((((b * b) * e) - (((2 * a) * b) * c)) + ((a * a) * e)) < (((b * b) * e) - ((a * b) * c)))
              show post (some (0, 0, 1, 1, 1)) (xa_up (xa_up (xa_up (xa_up (xa_up (xa_up M 60 21 0) 60 20 0) 74 0 ((((b * b) * e) - ((a * b) * c)).tdiv g486)) 60 20 1) 74 1 (((((b * b) * e) - (((2 * a) * b) * c)) + ((a * a) * e)).tdiv g486)) 60 20 2)
              exact k 1 _ (yes 1 (by omega) (sl_v1 (by omega))) (xm_cor_f (by omega) (xm_cor_a rfl (xm_cor_f (by omega) (xm_cor_a rfl (xm_cor_f (by omega) (xm_cor_f (by omega) xm_cor_r))))))
          · intro (i105 : ¬ ((-e) ≤ c ∧ c ≤ e))
            show post (some (0, 0, (-1), (-1), (-1))) (xa_up M 60 21 0)
            exact k (-1) _ ((if_neg (by omega)).symm) (xm_cor_f (by omega) xm_cor_r)
        · intro (i4 : ¬ (1 ≤ e ∧ e ≤ 20))
          show post (some (0, 0, (-1), (-1), (-1))) (xa_up M 60 21 0)
          exact k (-1) _ ((if_neg (by omega)).symm) (xm_cor_f (by omega) xm_cor_r)
  · intro (i1 : ¬ (0 ≤ a ∧ a ≤ 99))
    show post (some (0, 0, (-1), (-1), (-1))) (xa_up M 60 21 0)
    exact k (-1) _ ((if_neg (by omega)).symm) (xm_cor_f (by omega) xm_cor_r)
theorem iv_slotM (A : Nat → Nat) (h : g_H) (a b c d : Int32) (hI : iv_inv A h) : g_run 60 270 [.ref (A 60), .int a, .int b, .int c, .int d] h 0 0 (fun r h' => r = some (.int (Int32.ofInt (iv_slot a.toInt b.toInt c.toInt d.toInt))) ∧ iv_inv A h') := by
  refine g_run_mono (iv_callM2 (d := 60) hI (vs := [(2, 60, 0, 0, 0), (0, 0, -2147483648, 2147483647, a.toInt), (0, 0, -2147483648, 2147483647, b.toInt), (0, 0, -2147483648, 2147483647, c.toInt), (0, 0, -2147483648, 2147483647, d.toInt)]) (xs := [.ref (A 60), .int a, .int b, .int c, .int d]) ⟨rfl, iv_i a, iv_i b, iv_i c, iv_i d, trivial⟩ (fun o => ∃ r, r = iv_slot a.toInt b.toInt c.toInt d.toInt ∧ o = some (0, 0, r, r, r)) (fun M hM => ms_slotF hM (fun r M1 hr hc => ⟨⟨r, hr, rfl⟩, xm_Inv_cor hc hM⟩))) (fun r h' hp => ⟨?_, hp.2⟩)
  obtain ⟨⟨o, ⟨r, hr, rfl⟩, y, e, z, hz, hz2, -⟩, -⟩ := hp
  rw [e, hz, ← hr, ← hz2, Int32.ofInt_toInt]
theorem iv_cmp_pair (A : Nat → Nat) : iv_pair (iv_inv A) A 162 270 [0, 0, 0, 0] true false := by
  intro h as hI hs
  obtain ⟨m1, ys, rfl, -, hs⟩ := iv_spc hs
  obtain ⟨m2, ys, rfl, -, hs⟩ := iv_spc hs
  obtain ⟨m3, ys, rfl, -, hs⟩ := iv_spc hs
  obtain ⟨m4, ys, rfl, -, hs⟩ := iv_spc hs
  obtain rfl := iv_sp0 hs
  refine ⟨0, 0, by decide, by decide, g_run_mono (iv_slotX A h m1 m2 m3 m4 hI) (fun r1 h1 hp => ?_)⟩
  refine ⟨_, hp.1, iv_sh_ok hp.2, g_run_mono (iv_slotM A h1 m1 m2 m3 m4 hp.2) (fun r2 h2 hp2 => ?_)⟩
  exact ⟨⟨_, hp2.1, fun _ => rfl⟩, hp2.2⟩
