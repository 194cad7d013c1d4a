-- steps by hand: branches, calls, quotients
/-- what stands at a place of a table -/
def t_r (full : List s_I) (pc : Nat) : Option s_I := match s_jump full pc with
  | some (r :: _) => some r
  | _ => none
section T40
variable {CALL : Nat → List Value → g_H → Nat → Nat → (Option Value → g_H → Prop) → Prop} {o nL : Nat} {ini : Bool} {bc bs : Nat} {cc : ByteArray} {P : g_S → Prop} {full : List s_I} {pc kd a k : Nat} {v0 : Int} {L : g_L} {rest : List Value} {w : g_W}
theorem t_r_ok (hfull : ∀ r ∈ full, s_okI cc o r = true) {r : s_I} (h : t_r full pc = some r) : s_okI cc o r = true := by
  unfold t_r at h
  split at h
  next r' t e =>
    cases h
    exact hfull r ((s_jump_mem e).2 r List.mem_cons_self)
  next => cases h
theorem t_icmp (hcl : ∀ S, g_pre CALL o nL ini bc bs cc P S → P S) (hfull : ∀ r ∈ full, s_okI cc o r = true) {cd : ClassFile.Cond} {off : Int} (h : t_r full pc = some (pc, 3, 22, kd, a, k, v0, .if_icmp cd off)) {x y : Int32}
    (kk : if g_c2 x y cd = true then P (a, L, rest, w) else P (pc + 3, L, rest, w)) : P (pc, L, .int y :: .int x :: rest, w) := by
  obtain ⟨⟨n, hd, hlen, hne⟩, hQ, hlk⟩ := s_okI_eq (t_r_ok hfull h) (by omega)
  subst hlen
  have hQ' : (decide ((pc : Int) + off = (a : Int)) && Nat.beq (s_cdn cd) k) = true := hQ
  rw [Bool.and_eq_true, decide_eq_true_eq] at hQ'
  apply hcl
  refine ⟨_, _, hd, Or.inr (Or.inr (Or.inl (Or.inr (Or.inr (Or.inl ⟨cd, off, a, x, y, rest, rfl, rfl, hQ'.1, rfl, ?_⟩)))))⟩
  split
  next e => rw [if_pos e] at kk; exact kk
  next e => rw [if_neg e] at kk; exact kk
theorem t_ifc (hcl : ∀ S, g_pre CALL o nL ini bc bs cc P S → P S) (hfull : ∀ r ∈ full, s_okI cc o r = true) {cd : ClassFile.Cond} {off : Int} (h : t_r full pc = some (pc, 3, 21, kd, a, k, v0, .ifCond cd off)) {x : Int32}
    (kk : if g_c1 x cd = true then P (a, L, rest, w) else P (pc + 3, L, rest, w)) : P (pc, L, .int x :: rest, w) := by
  obtain ⟨⟨n, hd, hlen, hne⟩, hQ, hlk⟩ := s_okI_eq (t_r_ok hfull h) (by omega)
  subst hlen
  have hQ' : (decide ((pc : Int) + off = (a : Int)) && Nat.beq (s_cdn cd) k) = true := hQ
  rw [Bool.and_eq_true, decide_eq_true_eq] at hQ'
  apply hcl
  refine ⟨_, _, hd, Or.inr (Or.inr (Or.inl (Or.inr (Or.inl ⟨cd, off, a, x, rest, rfl, rfl, hQ'.1, rfl, ?_⟩))))⟩
  split
  next e => rw [if_pos e] at kk; exact kk
  next e => rw [if_neg e] at kk; exact kk
theorem t_goto (hcl : ∀ S, g_pre CALL o nL ini bc bs cc P S → P S) (hfull : ∀ r ∈ full, s_okI cc o r = true) {off : Int} {st : List Value} (h : t_r full pc = some (pc, 3, 20, kd, a, k, v0, .goto off))
    (kk : P (a, L, st, w)) : P (pc, L, st, w) := by
  obtain ⟨⟨n, hd, hlen, hne⟩, hQ, hlk⟩ := s_okI_eq (t_r_ok hfull h) (by omega)
  subst hlen
  have hQ' : decide ((pc : Int) + off = (a : Int)) = true := hQ
  rw [decide_eq_true_eq] at hQ'
  apply hcl
  exact ⟨_, _, hd, Or.inr (Or.inr (Or.inl (Or.inl ⟨off, a, rfl, rfl, hQ', kk⟩)))⟩
theorem t_ldv (hcl : ∀ S, g_pre CALL o nL ini bc bs cc P S → P S) (hfull : ∀ r ∈ full, s_okI cc o r = true) {ins : Instr} {f : Int64 → Int64 → Int64} (h : t_r full pc = some (pc, 1, 15, kd, a, k, v0, ins)) (hf : g_ld ins = some f) {x y : Int64} (hy : ¬ y = 0)
    (kk : P (pc + 1, L, .long (f x y) :: rest, w)) : P (pc, L, .long y :: .long x :: rest, w) := by
  obtain ⟨⟨n, hd, hlen, hne⟩, hQ, hlk⟩ := s_okI_eq (t_r_ok hfull h) (by omega)
  subst hlen
  apply hcl
  exact ⟨_, _, hd, Or.inr (Or.inl (Or.inr (Or.inr (Or.inr (Or.inr (Or.inl ⟨f, x, y, rest, hf, rfl, hy, rfl, kk⟩))))))⟩
theorem t_stat (hcl : ∀ S, g_pre CALL o nL ini bc bs cc P S → P S) (hfull : ∀ r ∈ full, s_okI cc o r = true) {i : Nat} (h : t_r full pc = some (pc, 3, 35, kd, a, k, v0, .invokestatic i)) (hkd : kd = 4 ∨ kd = 5) (As : List Value) (hn : As.length = k) (hr : g_sum rest ≤ 8) {mc ms : Nat} (hc : w.1 + mc ≤ bc) (hs : w.2.1 + ms ≤ bs)
    (kk : CALL a As w.2.2 mc ms (fun r h' => P (pc + 3, L, r.toList ++ rest, w.1 + mc, w.2.1 + ms, h'))) {st : List Value} (hst : st = As.reverse ++ rest) : P (pc, L, st, w) := by
  obtain ⟨⟨n, hd, hlen, hne⟩, hQ, hlk⟩ := s_okI_eq (t_r_ok hfull h) (by omega)
  subst hlen
  obtain ⟨ps, hm⟩ := hlk (by decide) i rfl
  apply hcl
  exact ⟨_, _, hd, Or.inr (Or.inr (Or.inr (Or.inr (Or.inr (Or.inl ⟨i, kd, a, k, v0, ps, As, rest, mc, ms, rfl, rfl, hkd, hm, hst, hn, hr, hc, hs, kk⟩)))))⟩
theorem t_virt (hcl : ∀ S, g_pre CALL o nL ini bc bs cc P S → P S) (hfull : ∀ r ∈ full, s_okI cc o r = true) {i : Nat} (h : t_r full pc = some (pc, 3, 34, kd, a, k, v0, .invokevirtual i)) (hkd : kd = 2 ∨ kd = 3) (As : List Value) {ad : Nat} (hn : As.length = k) {q nf : Nat} {f : Nat → Value} (hq : g_get w.2.2 q = some (ad, false, (g_me a).2.1, nf, f)) (hr : g_sum rest ≤ 8) {mc ms : Nat} (hc : w.1 + mc ≤ bc) (hs : w.2.1 + ms ≤ bs)
    (kk : CALL a (.ref ad :: As) w.2.2 mc ms (fun r h' => P (pc + 3, L, r.toList ++ rest, w.1 + mc, w.2.1 + ms, h'))) {st : List Value} (hst : st = As.reverse ++ .ref ad :: rest) : P (pc, L, st, w) := by
  obtain ⟨⟨n, hd, hlen, hne⟩, hQ, hlk⟩ := s_okI_eq (t_r_ok hfull h) (by omega)
  subst hlen
  obtain ⟨ps, hm⟩ := hlk (by decide) i rfl
  apply hcl
  exact ⟨_, _, hd, Or.inr (Or.inr (Or.inr (Or.inr (Or.inl ⟨i, kd, a, k, v0, ps, As, ad, rest, q, nf, f, mc, ms, rfl, rfl, hkd, hm, hst, hn, hq, hr, hc, hs, kk⟩))))⟩
end T40
/-- a method's contract out of its body -/
theorem h_meth {j : Nat} {q : s_MI} (hq : s_mi[j]? = some q) {d : Nat} {as : List Value} {h : g_H} {post : Option Value → g_H → Prop} (hlen : (lg_sl as).length ≤ q.1)
    (body : ∀ P : g_S → Prop, (∀ S, g_end (g_by j) (g_rt j) q.2.2.2.1 q.2.2.2.2.1 post S → P S) → (∀ S, g_pre (g_run d) q.2.2.2.2.2 q.1 q.2.2.1 q.2.2.2.1 q.2.2.2.2.1 (g_by j) P S → P S) → P (0, lv_args 0 as, [], 0, 0, h)) : g_run (d + 1) j as h q.2.2.2.1 q.2.2.2.2.1 post := by
  obtain ⟨m1, m2, m3, m4, m5⟩ := s_mi_ok j q hq
  refine ⟨m1, by rw [m2]; exact hlen, ?_⟩
  rw [m5, m2, m4]
  exact body
theorem h_full {j : Nat} {q : s_MI} (hq : s_mi[j]? = some q) {t : List s_I} (ht : s_codes.getD j [] = t) : ∀ r ∈ t, s_okI (g_by j) q.2.2.2.2.2 r = true := by
  subst ht
  exact (s_codes_ok j q hq).2
theorem h_lret {j : Nat} {q : s_MI} (hq : s_mi[j]? = some q) (hrt : q.2.1 = 3) {full : List s_I} (hfull : ∀ r ∈ full, s_okI (g_by j) q.2.2.2.2.2 r = true) {pc kd a k : Nat} {v0 : Int} (h : t_r full pc = some (pc, 1, 41, kd, a, k, v0, .lreturn)) {bc bs cn sn : Nat} (hc : cn ≤ bc) (hs : sn ≤ bs) {post : Option Value → g_H → Prop} {x : Int64} {L : g_L} {hh : g_H} (kk : post (some (.long x)) hh) : g_end (g_by j) (g_rt j) bc bs post (pc, L, [.long x], cn, sn, hh) := by
  obtain ⟨⟨n, hd, hlen, hne⟩, hQ, hlk⟩ := s_okI_eq (t_r_ok hfull h) (by omega)
  subst hlen
  have m3 := (s_mi_ok j q hq).2.2.1
  rw [hrt] at m3
  exact ⟨hc, hs, Or.inr (Or.inl ⟨x, hd, m3, rfl, kk⟩)⟩
/-- comparisons, told of integers -/
def h_ci (x y : Int) : ClassFile.Cond → Bool
  | .eq => decide (x = y)
  | .ne => decide (¬ x = y)
  | .lt => decide (x < y)
  | .ge => decide (y ≤ x)
  | .gt => decide (y < x)
  | .le => decide (x ≤ y)
theorem h_c2 (x y : Int32) (cd : ClassFile.Cond) : g_c2 x y cd = h_ci x.toInt y.toInt cd := by
  cases cd
  · exact decide_eq_decide.mpr Int32.toInt_inj.symm
  · exact decide_eq_decide.mpr (not_congr Int32.toInt_inj.symm)
  · exact decide_eq_decide.mpr Int32.lt_iff_toInt_lt
  · exact decide_eq_decide.mpr Int32.le_iff_toInt_le
  · exact decide_eq_decide.mpr Int32.lt_iff_toInt_lt
  · exact decide_eq_decide.mpr Int32.le_iff_toInt_le
theorem h_c1 (x : Int32) (cd : ClassFile.Cond) : g_c1 x cd = h_ci x.toInt 0 cd := by
  rw [s_c1_c2, h_c2]
  rfl
theorem h_cmp (x y : Int64) : (lg_cmp x y).toInt = if y.toInt < x.toInt then 1 else if x.toInt = y.toInt then 0 else -1 := by
  unfold lg_cmp
  by_cases h1 : y.toInt < x.toInt
  · rw [if_pos (show x > y from Int64.lt_iff_toInt_lt.mpr h1), if_pos h1]
    rfl
  · rw [if_neg (show ¬ x > y from fun h => h1 (Int64.lt_iff_toInt_lt.mp h)), if_neg h1]
    by_cases h2 : x.toInt = y.toInt
    · rw [if_pos (Int64.toInt_inj.mp h2), if_pos h2]
      rfl
    · rw [if_neg (fun h => h2 (by rw [h])), if_neg h2]
      rfl
theorem h_cl (x y : Int64) (cd : ClassFile.Cond) : g_c1 (lg_cmp x y) cd = h_ci x.toInt y.toInt cd := by
  rw [h_c1, h_cmp]
  cases cd <;> simp only [h_ci, decide_eq_decide] <;> split <;> (try split) <;> omega
theorem h_in64 {n : Int} (h1 : -9223372036854775808 ≤ n) (h2 : n ≤ 9223372036854775807) : n.bmod (2 ^ 64) = n := by
  apply Int.bmod_eq_of_le <;> omega
theorem h_neg {x : Int64} (hx : -9223372036854775808 < x.toInt) : (-x).toInt = -x.toInt := by
  have h2 := Int64.toInt_lt x
  rw [Int64.toInt_neg, h_in64 (by omega) (by omega)]
theorem h_rem {x y : Int64} (hx : 0 ≤ x.toInt) (hy : 0 < y.toInt) : (x - x / y * y).toInt = x.toInt % y.toInt := by
  have h2 := Int64.toInt_lt x
  have h3 := Int64.toInt_lt y
  have e1 : x.toInt.tdiv y.toInt = x.toInt / y.toInt := Int.tdiv_eq_ediv_of_nonneg hx
  have q0 : 0 ≤ x.toInt / y.toInt := Int.ediv_nonneg hx (Int.le_of_lt hy)
  have q1 : x.toInt / y.toInt * y.toInt ≤ x.toInt := Int.ediv_mul_le _ (by omega)
  have q2 : x.toInt / y.toInt ≤ x.toInt := Int.ediv_le_self _ hx
  have q3 : 0 ≤ x.toInt / y.toInt * y.toInt := Int.mul_nonneg q0 (Int.le_of_lt hy)
  have d1 : (x / y).toInt = x.toInt / y.toInt := by
    rw [Int64.toInt_div, e1, h_in64 (by omega) (by omega)]
  have d2 : (x / y * y).toInt = x.toInt / y.toInt * y.toInt := by
    rw [Int64.toInt_mul, d1, h_in64 (by omega) (by omega)]
  have q4 := Int.emod_nonneg x.toInt (show y.toInt ≠ 0 by omega)
  have q5 := Int.emod_def x.toInt y.toInt
  rw [Int.mul_comm] at q5
  rw [Int64.toInt_sub, d2, h_in64 (by omega) (by omega)]
  omega
/-- |x| of the library -/
theorem h_abs {d : Nat} {h : g_H} {x : Int64} {post : Option Value → g_H → Prop} (hx : -9223372036854775808 < x.toInt) (k : ∀ r : Int64, r.toInt = (x.toInt.natAbs : Int) → post (some (.long r)) h) : g_run (d + 1) 56 [.long x] h 0 0 post := by
  have hq : s_mi[56]? = some (2, 3, false, 0, 0, 14) := by decide +kernel
  have hfull := h_full hq (t := s_c_56) rfl
  refine h_meth hq (by show 2 ≤ 2; decide) ?_
  intro P hpost hcl
  refine t_at_ok hcl hfull (pc := 0) (n := 3) (pc' := 3) (L' := [(0, .long x)]) (st' := [.int (lg_cmp x (Int64.ofNat 0))]) rfl ?_
  refine t_ifc hcl hfull (cd := .ge) (a := 11) rfl ?_
  rw [h_cl, show h_ci x.toInt (Int64.ofNat 0).toInt .ge = decide (0 ≤ x.toInt) from rfl]
  split
  next e =>
    rw [decide_eq_true_eq] at e
    refine t_at_ok hcl hfull (pc := 11) (n := 1) (pc' := 12) (L' := [(0, .long x)]) (st' := [.long x]) rfl ?_
    exact hpost _ (h_lret hq rfl hfull rfl (Nat.le_refl _) (Nat.le_refl _) (k x (by omega)))
  next e =>
    rw [decide_eq_true_eq] at e
    refine t_at_ok hcl hfull (pc := 6) (n := 2) (pc' := 8) (L' := [(0, .long x)]) (st' := [.long (-x)]) rfl ?_
    refine t_goto hcl hfull (a := 12) rfl ?_
    refine hpost _ (h_lret hq rfl hfull rfl (Nat.le_refl _) (Nat.le_refl _) (k (-x) ?_))
    rw [h_neg hx]
    omega
theorem h_in32 {n : Int} (h1 : -2147483648 ≤ n) (h2 : n ≤ 2147483647) : n.bmod (2 ^ 32) = n := by
  apply Int.bmod_eq_of_le <;> omega
theorem h_inc {i : Int32} (h : i.toInt < 2147483647) : (i + Int32.ofInt 1).toInt = i.toInt + 1 := by
  have h2 := Int32.le_toInt i
  rw [Int32.toInt_add, show (Int32.ofInt 1).toInt = 1 from rfl, h_in32 (by omega) (by omega)]
def h_gl (x0 y0 : Int64) (z : Option Int64) (i : Int32) (y x : Int64) : g_L := match z with
  | none => [(8, .int i), (6, .long y), (4, .long x), (0, .long x0), (2, .long y0)]
  | some z => [(8, .int i), (6, .long y), (4, .long x), (9, .long z), (0, .long x0), (2, .long y0)]
/-- the greatest common measure of the class: of two numbers, the second not 0, it isn't 0 -/
theorem h_gcd_loop {d : Nat} {h : g_H} {x0 y0 : Int64} {P : g_S → Prop} (hcl : ∀ S, g_pre (g_run d) 11 11 false 0 0 (g_by 55) P S → P S) (hfull : ∀ r ∈ s_c_55, s_okI (g_by 55) 11 r = true) {B : Int} (hend : ∀ (r : Int64) (L : g_L), 0 < r.toInt → r.toInt ≤ B → P (52, L, [.long r], 0, 0, h)) :
    ∀ (n : Nat) (z : Option Int64) (i : Int32) (y x : Int64), 0 ≤ i.toInt → i.toInt + n = 100 → 0 ≤ x.toInt → 0 ≤ y.toInt → x.toInt ≤ B → y.toInt ≤ B → (0 < y.toInt ∨ 0 < x.toInt) → (i.toInt = 0 → 0 < y.toInt) → (0 < i.toInt → 0 < x.toInt) → P (15, h_gl x0 y0 z i y x, [], 0, 0, h) := by
  intro n
  induction n with
  | zero =>
    intro z i y x i0 i1 x0' y0' xB yB h1 h2 h3
    cases z
    all_goals
      refine t_at_ok hcl hfull (pc := 15) (n := 2) (pc' := 19) (L' := _) (st' := [.int (Int8.ofInt 100).toInt32, .int i]) rfl ?_
      refine t_icmp hcl hfull (cd := .ge) (a := 50) rfl ?_
      rw [h_c2, show h_ci i.toInt (Int8.ofInt 100).toInt32.toInt .ge = decide (100 ≤ i.toInt) from rfl, if_pos (by rw [decide_eq_true_eq]; omega)]
      refine t_at_ok hcl hfull (pc := 50) (n := 1) (pc' := 52) (L' := _) (st' := [.long x]) rfl ?_
      exact hend x _ (h3 (by omega)) xB
  | succ n ih =>
    intro z i y x i0 i1 x0' y0' xB yB h1 h2 h3
    cases z
    all_goals
      refine t_at_ok hcl hfull (pc := 15) (n := 2) (pc' := 19) (L' := _) (st' := [.int (Int8.ofInt 100).toInt32, .int i]) rfl ?_
      refine t_icmp hcl hfull (cd := .ge) (a := 50) rfl ?_
      rw [h_c2, show h_ci i.toInt (Int8.ofInt 100).toInt32.toInt .ge = decide (100 ≤ i.toInt) from rfl, if_neg (by rw [decide_eq_true_eq]; omega)]
      refine t_at_ok hcl hfull (pc := 22) (n := 3) (pc' := 26) (L' := _) (st' := [.int (lg_cmp y (Int64.ofNat 0))]) rfl ?_
      refine t_ifc hcl hfull (cd := .eq) (a := 50) rfl ?_
      rw [h_cl, show h_ci y.toInt (Int64.ofNat 0).toInt .eq = decide (y.toInt = 0) from rfl]
      split
      next e =>
        rw [decide_eq_true_eq] at e
        refine t_at_ok hcl hfull (pc := 50) (n := 1) (pc' := 52) (L' := _) (st' := [.long x]) rfl ?_
        exact hend x _ (by omega) xB
      next e =>
        rw [decide_eq_true_eq] at e
        have hy : 0 < y.toInt := by omega
        refine t_at_ok hcl hfull (pc := 29) (n := 2) (pc' := 33) (L' := _) (st' := [.long y, .long x]) rfl ?_
        refine t_ldv hcl hfull rfl (f := fun x y => x - x / y * y) rfl (fun h => by rw [h] at hy; exact absurd hy (by decide)) ?_
        refine t_at_ok hcl hfull (pc := 34) (n := 6) (pc' := 47) (L' := h_gl x0 y0 (some (x - x / y * y)) (i + Int32.ofInt 1) (x - x / y * y) y) (st' := []) rfl ?_
        refine t_goto hcl hfull (a := 15) rfl ?_
        have e1 := h_rem x0' hy
        have e2 := Int.emod_nonneg x.toInt (show y.toInt ≠ 0 by omega)
        have e3 := Int.emod_lt_of_pos x.toInt hy
        have e4 := h_inc (i := i) (by omega)
        exact ih _ _ _ _ (by omega) (by omega) (by omega) (by omega) (by omega) (by omega) (Or.inr hy) (fun h => by omega) (fun _ => hy)
theorem h_gcd {d : Nat} {h : g_H} {x y : Int64} {post : Option Value → g_H → Prop} {B : Int} (hx : -9223372036854775808 < x.toInt) (hy : -9223372036854775808 < y.toInt) (hxB : (x.toInt.natAbs : Int) ≤ B) (hyB : (y.toInt.natAbs : Int) ≤ B) (hy0 : y.toInt ≠ 0) (k : ∀ r : Int64, 0 < r.toInt → r.toInt ≤ B → post (some (.long r)) h) : g_run (d + 1 + 1) 55 [.long x, .long y] h 0 0 post := by
  have hq : s_mi[55]? = some (11, 3, false, 0, 0, 11) := by decide +kernel
  have hfull := h_full hq (t := s_c_55) rfl
  refine h_meth hq (by show 4 ≤ 11; decide) ?_
  intro P hpost hcl
  refine t_at_ok hcl hfull (pc := 0) (n := 1) (pc' := 1) (L' := [(0, .long x), (2, .long y)]) (st' := [.long x]) rfl ?_
  refine t_stat hcl hfull (a := 56) rfl (Or.inl rfl) [.long x] rfl (by decide) (mc := 0) (ms := 0) (Nat.le_refl _) (Nat.le_refl _) (rest := []) ?_ rfl
  refine h_abs hx (fun x1 hx1 => ?_)
  refine t_at_ok hcl hfull (pc := 4) (n := 2) (pc' := 7) (L' := [(4, .long x1), (0, .long x), (2, .long y)]) (st' := [.long y]) rfl ?_
  refine t_stat hcl hfull (a := 56) rfl (Or.inl rfl) [.long y] rfl (by decide) (mc := 0) (ms := 0) (Nat.le_refl _) (Nat.le_refl _) (rest := []) ?_ rfl
  refine h_abs hy (fun y1 hy1 => ?_)
  refine t_at_ok hcl hfull (pc := 10) (n := 3) (pc' := 15) (L' := h_gl x y none (Int32.ofInt 0) y1 x1) (st' := []) rfl ?_
  refine h_gcd_loop hcl hfull (B := B) (fun r L h1 h2 => hpost _ (h_lret hq rfl hfull rfl (Nat.le_refl _) (Nat.le_refl _) (k r h1 h2))) 100 none (Int32.ofInt 0) y1 x1 (by decide) (by decide) (by omega) (by omega) (by omega) (by omega) (Or.inl (by omega)) (fun _ => by omega) (fun h => absurd h (by decide))
