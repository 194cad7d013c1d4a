-- joined: 99f.keep, 99g.keep2, 99g1.rows, 99g2.ro
section
-- keep: the one call that makes cells
set_option maxRecDepth 20000
section K1
variable {CALL : Nat → List Value → g_H → Nat → Nat → (Option Value → g_H → Prop) → Prop} {o nL : Nat} {ini : Bool} {bc bs : Nat} {cc : ByteArray} {P : g_S → Prop}
/-- a row whose instruction is of a kind -/
theorem iv_dec {pc len q kd a k : Nat} {v : Int} {ins : Instr} (hI : s_okI cc o (pc, len, q, kd, a, k, v, ins) = true) (hq : q < 44) (h25 : q ≠ 25) : decode cc pc = .ok (ins, len) := by
  obtain ⟨⟨n, hd, hlen, -⟩, -, -⟩ := s_okI_eq hI hq
  rw [hlen]
  exact hd
theorem iv_newarr (hcl : ∀ S, g_pre CALL o nL ini bc bs cc P S → P S) {pc kd b : Nat} {v : Int} {ins : Instr} (hI : s_okI cc o (pc, 2, 29, kd, 0, b, v, ins) = true) {x : Int32} {n : Nat} (h0 : ¬ x < 0) (hn : x.toNatClampNeg = n) (h6 : n ≤ 65536) {Ls : g_L} {rest : List Value} {c s : Nat} {h : g_H} (hc : c + 1 ≤ bc) (hs : s + n ≤ bs) (k : ∀ z : Nat, P (pc + 2, Ls, .ref z :: rest, c + 1, s + n, h ++ [(z, true, 0, n, fun _ => .int 0)])) : P (pc, Ls, .int x :: rest, c, s, h) := by
  have hd := iv_dec hI (by decide) (by decide)
  obtain ⟨-, hQ, -⟩ := s_okI_eq hI (by decide)
  have hi : ins = .newarray (g_at 0) := by
    clear hd
    revert hQ
    cases ins <;> intro hQ <;> first | (rename_i t; cases t <;> first | rfl | cases hQ) | cases hQ
  subst hi
  exact hcl _ ⟨_, _, hd, Or.inr (Or.inr (Or.inr (Or.inl (Or.inr (Or.inr (Or.inr (Or.inr (Or.inr (Or.inr (Or.inr (Or.inr (Or.inr (Or.inr (Or.inr (Or.inr (Or.inl ⟨0, x, n, rest, rfl, rfl, by decide, rfl, h0, hn, h6, hc, hs, k⟩))))))))))))))))⟩
theorem iv_putfield (hcl : ∀ S, g_pre CALL o nL ini bc bs cc P S → P S) {pc kd a k : Nat} {v0 : Int} {ins : Instr} (hI : s_okI cc o (pc, 3, 27, kd, a, k, v0, ins) = true) (hkd : kd = 0 ∨ kd = 1) {q ad n : Nat} {f : Nat → Value} {h : g_H} (hget : g_get h q = some (ad, false, a, n, f)) (hk : k < n) (hfin : (g_fd a k).2 = false ∨ (kd = 0 ∧ ini = true ∧ o = a)) {v : Value} {ty : FieldType} (hty : parseFieldDescriptor (g_fd a k).1 = some ty) (hn : narrow ty v = v) (hf : fits ty v = true) {Ls : g_L} {rest : List Value} {c s : Nat} (kk : P (pc + 3, Ls, rest, c, s, h.set q (ad, false, a, n, g_up f k v))) : P (pc, Ls, v :: .ref ad :: rest, c, s, h) := by
  have hd := iv_dec hI (by decide) (by decide)
  obtain ⟨-, hQ, hlk⟩ := s_okI_eq hI (by decide)
  have hi : ∃ i, ins = .putfield i := by
    clear hd hlk
    revert hQ
    cases ins <;> intro hQ <;> first | exact ⟨_, rfl⟩ | cases hQ
  obtain ⟨i, rfl⟩ := hi
  obtain ⟨ps, hl⟩ := hlk (by decide) i rfl
  exact hcl _ ⟨_, _, hd, Or.inr (Or.inr (Or.inr (Or.inl (Or.inr (Or.inl ⟨i, kd, a, k, v0, ps, q, ad, n, f, v, ty, rest, rfl, rfl, hkd, hl, rfl, hget, hk, hfin, hty, hn, hf, kk⟩)))))⟩
theorem iv_getfield (hcl : ∀ S, g_pre CALL o nL ini bc bs cc P S → P S) {pc kd a k : Nat} {v0 : Int} {ins : Instr} (hI : s_okI cc o (pc, 3, 26, kd, a, k, v0, ins) = true) (hkd : kd = 0 ∨ kd = 1) {q ad n : Nat} {f : Nat → Value} {h : g_H} (hget : g_get h q = some (ad, false, a, n, f)) (hk : k < n) {Ls : g_L} {rest : List Value} {c s : Nat} (kk : P (pc + 3, Ls, f k :: rest, c, s, h)) : P (pc, Ls, .ref ad :: rest, c, s, h) := by
  have hd := iv_dec hI (by decide) (by decide)
  obtain ⟨-, hQ, hlk⟩ := s_okI_eq hI (by decide)
  have hi : ∃ i, ins = .getfield i := by
    clear hd hlk
    revert hQ
    cases ins <;> intro hQ <;> first | exact ⟨_, rfl⟩ | cases hQ
  obtain ⟨i, rfl⟩ := hi
  obtain ⟨ps, hl⟩ := hlk (by decide) i rfl
  exact hcl _ ⟨_, _, hd, Or.inr (Or.inr (Or.inr (Or.inl (Or.inl ⟨i, kd, a, k, v0, ps, q, ad, n, f, rest, rfl, rfl, hkd, hl, rfl, hget, hk, kk⟩))))⟩
theorem iv_new (hcl : ∀ S, g_pre CALL o nL ini bc bs cc P S → P S) {pc q9 ci N : Nat} {v0 : Int} {ins : Instr} (hI : s_okI cc o (pc, 3, 31, 9, ci, N, v0, ins) = true) {Ls : g_L} {st : List Value} {c s : Nat} {h : g_H} (hc : c + 1 ≤ bc) (hs : s + N ≤ bs) (k : ∀ z : Nat, P (pc + 3, Ls, .ref z :: st, c + 1, s + N, h ++ [(z, false, ci, N, fun j => defaultValue ((parseFieldDescriptor (g_fd ci j).1).getD .int))])) : P (pc, Ls, st, c, s, h) := by
  have hd := iv_dec hI (by decide) (by decide)
  obtain ⟨-, hQ, hlk⟩ := s_okI_eq hI (by decide)
  have hi : ∃ i, ins = .new i := by
    clear hd hlk
    revert hQ
    cases ins <;> intro hQ <;> first | exact ⟨_, rfl⟩ | cases hQ
  obtain ⟨i, rfl⟩ := hi
  obtain ⟨ps, hl⟩ := hlk (by decide) i rfl
  exact hcl _ ⟨_, _, hd, Or.inr (Or.inr (Or.inr (Or.inl (Or.inr (Or.inr (Or.inr (Or.inr (Or.inr (Or.inr (Or.inr (Or.inr (Or.inr (Or.inr (Or.inr (Or.inr (Or.inr (Or.inr (⟨i, ci, N, v0, ps, rfl, rfl, hl, hc, hs, k⟩))))))))))))))))))⟩
theorem iv_dup (hcl : ∀ S, g_pre CALL o nL ini bc bs cc P S → P S) {pc kd a b : Nat} {v0 : Int} {ins : Instr} (hI : s_okI cc o (pc, 1, 5, kd, a, b, v0, ins) = true) {Ls : g_L} {x : Value} {rest : List Value} {w : g_W} (hx : x.category = 1) (k : P (pc + 1, Ls, x :: x :: rest, w)) : P (pc, Ls, x :: rest, w) := by
  have hd := iv_dec hI (by decide) (by decide)
  obtain ⟨-, hQ, -⟩ := s_okI_eq hI (by decide)
  have hi : ins = .dup := of_decide_eq_true hQ
  subst hi
  exact hcl _ ⟨_, _, hd, Or.inl (Or.inr (Or.inr (Or.inr (Or.inr (Or.inr (Or.inl ⟨_, _, rfl, rfl, rfl, hx, k⟩))))))⟩
theorem iv_special (hcl : ∀ S, g_pre CALL o nL ini bc bs cc P S → P S) {pc kd j n : Nat} {v0 : Int} {ins : Instr} (hI : s_okI cc o (pc, 3, 36, kd, j, n, v0, ins) = true) (hkd : kd = 6 ∨ kd = 7) {as rest : List Value} (hl : as.length = n) (hs : g_sum rest ≤ 8) {Ls : g_L} {c s mc ms ad : Nat} {h : g_H} (h1 : c + mc ≤ bc) (h2 : s + ms ≤ bs) (hr : CALL j (.ref ad :: as) h mc ms (fun r h' => P (pc + 3, Ls, r.toList ++ rest, c + mc, s + ms, h'))) : P (pc, Ls, as.reverse ++ .ref ad :: rest, c, s, h) := by
  have hd := iv_dec hI (by decide) (by decide)
  obtain ⟨-, hQ, hlk⟩ := s_okI_eq hI (by decide)
  have hi : ∃ i, ins = .invokespecial i := by
    clear hd hlk
    revert hQ
    cases ins <;> intro hQ <;> first | exact ⟨_, rfl⟩ | cases hQ
  obtain ⟨i, rfl⟩ := hi
  obtain ⟨ps, hl9⟩ := hlk (by decide) i rfl
  exact hcl _ ⟨_, _, hd, Or.inr (Or.inr (Or.inr (Or.inr (Or.inr (Or.inr (Or.inl ⟨i, kd, j, n, v0, ps, as, ad, rest, mc, ms, rfl, rfl, hkd, hl9, rfl, hl, hs, h1, h2, hr⟩))))))⟩
theorem iv_objinit (hcl : ∀ S, g_pre CALL o nL ini bc bs cc P S → P S) {pc a b : Nat} {v0 : Int} {ins : Instr} (hI : s_okI cc o (pc, 3, 37, 8, a, b, v0, ins) = true) {Ls : g_L} {ad : Nat} {rest : List Value} (hs : g_sum rest ≤ 8) {w : g_W} (k : P (pc + 3, Ls, rest, w)) : P (pc, Ls, .ref ad :: rest, w) := by
  have hd := iv_dec hI (by decide) (by decide)
  obtain ⟨-, hQ, hlk⟩ := s_okI_eq hI (by decide)
  have hi : ∃ i, ins = .invokespecial i := by
    clear hd hlk
    revert hQ
    cases ins <;> intro hQ <;> first | exact ⟨_, rfl⟩ | cases hQ
  obtain ⟨i, rfl⟩ := hi
  obtain ⟨ps, hl9⟩ := hlk (by decide) i rfl
  exact hcl _ ⟨_, _, hd, Or.inr (Or.inr (Or.inr (Or.inr (Or.inr (Or.inr (Or.inr ⟨i, _, _, _, ps, ad, rest, rfl, rfl, hl9, rfl, hs, k⟩))))))⟩
theorem iv_virt (hcl : ∀ S, g_pre CALL o nL ini bc bs cc P S → P S) {pc j n : Nat} {v0 : Int} {ins : Instr} (hI : s_okI cc o (pc, 3, 34, 2, j, n, v0, ins) = true) {q ad nf : Nat} {f : Nat → Value} {h : g_H} (hget : g_get h q = some (ad, false, (g_me j).2.1, nf, f)) {as rest : List Value} (hl : as.length = n) (hs : g_sum rest ≤ 8) {Ls : g_L} {c s mc ms : Nat} (h1 : c + mc ≤ bc) (h2 : s + ms ≤ bs) (hr : CALL j (.ref ad :: as) h mc ms (fun r h' => P (pc + 3, Ls, r.toList ++ rest, c + mc, s + ms, h'))) : P (pc, Ls, as.reverse ++ .ref ad :: rest, c, s, h) := by
  have hd := iv_dec hI (by decide) (by decide)
  obtain ⟨-, hQ, hlk⟩ := s_okI_eq hI (by decide)
  have hi : ∃ i, ins = .invokevirtual i := by
    clear hd hlk
    revert hQ
    cases ins <;> intro hQ <;> first | exact ⟨_, rfl⟩ | cases hQ
  obtain ⟨i, rfl⟩ := hi
  obtain ⟨ps, hl9⟩ := hlk (by decide) i rfl
  exact hcl _ ⟨_, _, hd, Or.inr (Or.inr (Or.inr (Or.inr (Or.inl ⟨i, 2, j, n, v0, ps, as, ad, rest, q, nf, f, mc, ms, rfl, rfl, Or.inl rfl, hl9, rfl, hl, hget, hs, h1, h2, hr⟩))))⟩
theorem iv_aastore (hcl : ∀ S, g_pre CALL o nL ini bc bs cc P S → P S) {pc kd b : Nat} {v0 : Int} {ins : Instr} (hI : s_okI cc o (pc, 1, 33, kd, 3, b, v0, ins) = true) {q ad n : Nat} {f : Nat → Value} {h : g_H} (hget : g_get h q = some (ad, true, 4, n, f)) {qk v nk : Nat} {fk : Nat → Value} (hgk : g_get h qk = some (v, false, 1, nk, fk)) {j : Int32} (hj : vp_in j n) {Ls : g_L} {rest : List Value} {c s : Nat} (k : P (pc + 1, Ls, rest, c, s, h.set q (ad, true, 4, n, g_up f j.toNatClampNeg (.ref v)))) : P (pc, Ls, .ref v :: .int j :: .ref ad :: rest, c, s, h) := by
  have hd := iv_dec hI (by decide) (by decide)
  obtain ⟨-, hQ, -⟩ := s_okI_eq hI (by decide)
  have hQ1 : (Nat.beq (s_asn ins) 3 && Nat.blt 3 4) = true := hQ
  rw [Bool.and_eq_true, Nat.beq_eq] at hQ1
  have hi : ins = .aastore := by
    rcases s_as_i hQ1.1 (by decide) with ⟨h, -⟩ | ⟨h, -⟩ | ⟨h, -⟩ | ⟨-, h⟩
    · cases h
    · cases h
    · cases h
    · exact h
  subst hi
  exact hcl _ ⟨_, _, hd, Or.inr (Or.inr (Or.inr (Or.inl (Or.inr (Or.inr (Or.inr (Or.inr (Or.inr (Or.inr (Or.inr (Or.inr (Or.inr (Or.inr (Or.inl ⟨q, ad, n, f, j, v, qk, nk, fk, rest, rfl, rfl, rfl, hget, hgk, hj, k⟩))))))))))))))⟩
end K1
-- the new cells
theorem iv_set {h : g_H} {c c' z : Nat × g_HC} {l : g_H} : (h ++ c :: l ++ [z]).set h.length c' = h ++ c' :: (l ++ [z]) := by
  induction h with
  | nil => rfl
  | cons x xs ih =>
    show x :: (xs ++ c :: l ++ [z]).set xs.length c' = x :: (xs ++ c' :: (l ++ [z]))
    rw [ih]
theorem iv_at {h : g_H} {c : Nat × g_HC} {l : g_H} : g_get (h ++ c :: l) h.length = some c := by
  show (h ++ c :: l)[h.length]? = some c
  rw [List.getElem?_append_right (Nat.le_refl _), Nat.sub_self]
  rfl
/-- an array that a Build's constructor makes -/
def iv_ar (z n : Nat) : Nat × g_HC := (z, true, 0, n, fun _ => .int 0)
theorem iv_blk {CALL : Nat → List Value → g_H → Nat → Nat → (Option Value → g_H → Prop) → Prop} {bc bs : Nat} {P : g_S → Prop} (hcl : ∀ S, g_pre CALL 1 1 true bc bs (g_by 1) P S → P S) {pc n k kd1 b1 kd2 b2 kd3 b3 : Nat} {v1 v3 v4 : Int} {i3 i4 : Instr}
    (r1 : s_okI (g_by 1) 1 (pc, 1, 1, kd1, 0, b1, v1, .aload_n 0) = true) (r2 : s_okI (g_by 1) 1 (pc + 1, 2, 0, kd2, 0, b2, (n : Int), .bipush (n : Int)) = true) (r3 : s_okI (g_by 1) 1 (pc + 3, 2, 29, kd3, 0, b3, v3, i3) = true) (r4 : s_okI (g_by 1) 1 (pc + 5, 3, 27, 0, 1, k, v4, i4) = true) (hn16 : n ≤ 16) (hk11 : k < 11) {a : Nat} {h l : g_H} {f : Nat → Value} {c s : Nat} (hc : c + 1 ≤ bc) (hs : s + n ≤ bs) (hk : ∃ fin, (s_ft.getD 1 []).getD k (9, true) = (3, fin))
    (next : ∀ z : Nat, P (pc + 8, [(0, .ref a)], [], c + 1, s + n, h ++ (a, false, 1, 11, g_up f k (.ref z)) :: (l ++ [iv_ar z n]))) : P (pc, [(0, .ref a)], [], c, s, h ++ (a, false, 1, 11, f) :: l) := by
  refine hcl _ ⟨_, _, iv_dec r1 (by decide) (by decide), Or.inl (Or.inr (Or.inl ⟨0, _, .ref a, rfl, List.mem_cons_self, rfl, ?_⟩))⟩
  refine hcl _ ⟨_, _, iv_dec r2 (by decide) (by decide), Or.inl (Or.inl ⟨_, rfl, ?_⟩)⟩
  have hb : ((Int8.ofInt (n : Int)).toInt32).toInt = (n : Int) := by
    rw [Int8.toInt_toInt32]
    exact Int8.toInt_ofInt_of_le (by omega) (by omega)
  refine iv_newarr hcl r3 (n := n) (fun hlt => ?_) ?_ (by omega) hc hs (fun z => ?_)
  · have := Int32.lt_iff_toInt_lt.mp hlt
    rw [hb] at this
    have h0 : (0 : Int32).toInt = 0 := rfl
    omega
  · rw [← Int32.toNat_toInt, hb]
    rfl
  · obtain ⟨fin, hk⟩ := hk
    obtain ⟨-, T, hT, hT2⟩ := s_ft_ok 1 k 3 fin hk (by decide)
    have hT2 : (∃ n, T = .object n) ∨ ∃ u, T = .array u := hT2
    refine iv_putfield hcl r4 (Or.inl rfl) (q := h.length) (n := 11) (f := f) ?_ hk11 (Or.inr ⟨rfl, rfl, rfl⟩) hT ?_ ?_ ?_
    · have e2 : h ++ (a, false, 1, 11, f) :: l ++ [(z, true, 0, n, fun _ => Value.int 0)] = h ++ (a, false, 1, 11, f) :: (l ++ [(z, true, 0, n, fun _ => Value.int 0)]) := by simp
      rw [e2]
      exact iv_at
    · rcases hT2 with ⟨u, rfl⟩ | ⟨u, rfl⟩ <;> rfl
    · rcases hT2 with ⟨u, rfl⟩ | ⟨u, rfl⟩ <;> rfl
    · rw [iv_set]
      exact next z
/-- what a Build's constructor makes -/
def iv_bl (h h' : g_H) (a : Nat) (f : Nat → Value) : Prop := ∃ z0 z1 z2 z3 z4 z5 z6 z7 z8 : Nat, h' = h ++ (a, false, 1, 11, g_up (g_up (g_up (g_up (g_up (g_up (g_up (g_up (g_up (f) 0 (.ref z0)) 1 (.ref z1)) 2 (.ref z2)) 3 (.ref z3)) 4 (.ref z4)) 5 (.ref z5)) 6 (.ref z6)) 7 (.ref z7)) 8 (.ref z8)) :: [iv_ar z0 14, iv_ar z1 14, iv_ar z2 14, iv_ar z3 14, iv_ar z4 14, iv_ar z5 16, iv_ar z6 16, iv_ar z7 10, iv_ar z8 10]
theorem iv_init {d a : Nat} {h : g_H} {f : Nat → Value} : g_run (d + 1) 1 [.ref a] (h ++ [(a, false, 1, 11, f)]) 9 122 (fun r h' => r = none ∧ iv_bl h h' a f) := by
  obtain ⟨q1, q2, q3, q4, q5⟩ := s_mi_ok 1 (1, 0, true, 9, 122, 1) (by decide +kernel)
  obtain ⟨c1, c2⟩ := s_codes_ok 1 (1, 0, true, 9, 122, 1) (by decide +kernel)
  rw [show s_codes.getD 1 [] = s_c_1 from rfl] at c1 c2
  have q3 : g_rt 1 = none := q3
  refine ⟨q1, by rw [q2]; exact (show 1 ≤ 1 by decide), ?_⟩
  rw [q5, q2, q4]
  intro P hend hcl
  refine t_at_ok hcl c2 (n := 1) (pc := 0) (pc' := 1) (L' := [(0, .ref a)]) (st' := [.ref a]) rfl ?_
  refine iv_objinit hcl (c2 _ (iv_in (c := []) (pc := 1) rfl)) (by decide) ?_
  refine iv_blk (pc := 4) (n := 14) (k := 0) hcl (c2 _ (iv_in (c := []) (pc := 4) rfl)) (c2 _ (iv_in (c := []) (pc := 5) rfl)) (c2 _ (iv_in (c := []) (pc := 7) rfl)) (c2 _ (iv_in (c := []) (pc := 9) rfl)) (by decide) (by decide) (by decide) (by decide) ⟨_, rfl⟩ (fun z0 => ?_)
  refine iv_blk (pc := 12) (n := 14) (k := 1) hcl (c2 _ (iv_in (c := []) (pc := 12) rfl)) (c2 _ (iv_in (c := []) (pc := 13) rfl)) (c2 _ (iv_in (c := []) (pc := 15) rfl)) (c2 _ (iv_in (c := []) (pc := 17) rfl)) (by decide) (by decide) (by decide) (by decide) ⟨_, rfl⟩ (fun z1 => ?_)
  refine iv_blk (pc := 20) (n := 14) (k := 2) hcl (c2 _ (iv_in (c := []) (pc := 20) rfl)) (c2 _ (iv_in (c := []) (pc := 21) rfl)) (c2 _ (iv_in (c := []) (pc := 23) rfl)) (c2 _ (iv_in (c := []) (pc := 25) rfl)) (by decide) (by decide) (by decide) (by decide) ⟨_, rfl⟩ (fun z2 => ?_)
  refine iv_blk (pc := 28) (n := 14) (k := 3) hcl (c2 _ (iv_in (c := []) (pc := 28) rfl)) (c2 _ (iv_in (c := []) (pc := 29) rfl)) (c2 _ (iv_in (c := []) (pc := 31) rfl)) (c2 _ (iv_in (c := []) (pc := 33) rfl)) (by decide) (by decide) (by decide) (by decide) ⟨_, rfl⟩ (fun z3 => ?_)
  refine iv_blk (pc := 36) (n := 14) (k := 4) hcl (c2 _ (iv_in (c := []) (pc := 36) rfl)) (c2 _ (iv_in (c := []) (pc := 37) rfl)) (c2 _ (iv_in (c := []) (pc := 39) rfl)) (c2 _ (iv_in (c := []) (pc := 41) rfl)) (by decide) (by decide) (by decide) (by decide) ⟨_, rfl⟩ (fun z4 => ?_)
  refine iv_blk (pc := 44) (n := 16) (k := 5) hcl (c2 _ (iv_in (c := []) (pc := 44) rfl)) (c2 _ (iv_in (c := []) (pc := 45) rfl)) (c2 _ (iv_in (c := []) (pc := 47) rfl)) (c2 _ (iv_in (c := []) (pc := 49) rfl)) (by decide) (by decide) (by decide) (by decide) ⟨_, rfl⟩ (fun z5 => ?_)
  refine iv_blk (pc := 52) (n := 16) (k := 6) hcl (c2 _ (iv_in (c := []) (pc := 52) rfl)) (c2 _ (iv_in (c := []) (pc := 53) rfl)) (c2 _ (iv_in (c := []) (pc := 55) rfl)) (c2 _ (iv_in (c := []) (pc := 57) rfl)) (by decide) (by decide) (by decide) (by decide) ⟨_, rfl⟩ (fun z6 => ?_)
  refine iv_blk (pc := 60) (n := 10) (k := 7) hcl (c2 _ (iv_in (c := []) (pc := 60) rfl)) (c2 _ (iv_in (c := []) (pc := 61) rfl)) (c2 _ (iv_in (c := []) (pc := 63) rfl)) (c2 _ (iv_in (c := []) (pc := 65) rfl)) (by decide) (by decide) (by decide) (by decide) ⟨_, rfl⟩ (fun z7 => ?_)
  refine iv_blk (pc := 68) (n := 10) (k := 8) hcl (c2 _ (iv_in (c := []) (pc := 68) rfl)) (c2 _ (iv_in (c := []) (pc := 69) rfl)) (c2 _ (iv_in (c := []) (pc := 71) rfl)) (c2 _ (iv_in (c := []) (pc := 73) rfl)) (by decide) (by decide) (by decide) (by decide) ⟨_, rfl⟩ (fun z8 => ?_)
  refine hend _ ⟨by show 0 + 1 + 1 + 1 + 1 + 1 + 1 + 1 + 1 + 1 ≤ 9; decide, by show 0 + 14 + 14 + 14 + 14 + 14 + 16 + 16 + 10 + 10 ≤ 122; decide, Or.inr (Or.inr (Or.inr ⟨?_, q3, rfl, rfl, z0, z1, z2, z3, z4, z5, z6, z7, z8, rfl⟩))⟩
  exact iv_dec (c2 _ (iv_in (c := []) (pc := 76) rfl)) (by decide) (by decide)
end
section
-- keep keeps what holds between calls
set_option maxRecDepth 20000
theorem y_H_app {φ : Nat → Nat → Value} {R : y_R} {W ws : y_W} {β : Nat → Int} {h hs : g_H} (hH : y_H φ R W β h) (hl : hs.length = ws.length) (hro : ∀ (r : Nat) (ro : y_R1), R.1[r]? = some ro → y_rov ro = true → False) (hN : ∀ p ∈ R.2, ∀ w ∈ ws, ¬ w.2 = p.2.1) (hT : ∀ (q a r : Nat), ws[q]? = some (a, r) → ∃ (ro : y_R1) (f : Nat → Value), R.1[r]? = some ro ∧ hs[q]? = some (a, ro.1, ro.2.1, ro.2.2.1, f) ∧ ∀ j, j < ro.2.2.1 → y_g (W ++ ws) β (y_spj β ro j) (f j)) : y_H φ R (W ++ ws) β (h ++ hs) := by
  have hW : W <+: W ++ ws := ⟨ws, rfl⟩
  refine ⟨by rw [List.length_append, List.length_append, hH.1, hl], fun q a r hq => ?_, fun p hp => ?_⟩
  · by_cases hlt : q < W.length
    · rw [List.getElem?_append_left hlt] at hq
      obtain ⟨ro, f, g1, g2, g3⟩ := hH.2.1 q a r hq
      refine ⟨ro, f, g1, ?_, fun j hj => ?_⟩
      · rw [List.getElem?_append_left (by rw [hH.1]; exact hlt)]
        exact g2
      · rcases g3 j hj with g | g
        · exact Or.inl g
        · exact Or.inr ⟨y_ext_g hW g.1, g.2⟩
    · rw [List.getElem?_append_right (by omega)] at hq
      obtain ⟨ro, f, g1, g2, g3⟩ := hT _ a r hq
      refine ⟨ro, f, g1, ?_, fun j hj => Or.inr ⟨g3 j hj, fun h => (hro r ro g1 h).elim⟩⟩
      rw [List.getElem?_append_right (by rw [hH.1]; omega), hH.1]
      exact g2
  · obtain ⟨u1, q, a, ro, f, n, v1, v2, v3, v4, v5⟩ := hH.2.2 p hp
    have low : ∀ q a, (W ++ ws)[q]? = some (a, p.2.1) → W[q]? = some (a, p.2.1) := fun q a hq => by
      by_cases hlt : q < W.length
      · rw [List.getElem?_append_left hlt] at hq
        exact hq
      · rw [List.getElem?_append_right (by omega)] at hq
        exact absurd rfl (hN p hp _ (List.mem_of_getElem? hq))
    have hql := (List.getElem?_eq_some_iff.mp v1).1
    refine ⟨fun q q' a a' h1 h2 => u1 q q' a a' (low q a h1) (low q' a' h2), q, a, ro, f, n, ?_, v2, ?_, v4, v5⟩
    · rw [List.getElem?_append_left hql]
      exact v1
    · rw [List.getElem?_append_left (by rw [hH.1]; exact hql)]
      exact v3
/-- the world of a new Build -/
def iv_ws (z z0 z1 z2 z3 z4 z5 z6 z7 z8 : Nat) : y_W := [(z, 1), (z0, 14), (z1, 15), (z2, 16), (z3, 17), (z4, 18), (z5, 19), (z6, 20), (z7, 21), (z8, 22)]
theorem iv_ints {W : y_W} {β : Nat → Int} {lo hi : Int} (h1 : lo ≤ 0) (h2 : 0 ≤ hi) : y_g W β (0, lo, hi, 0, 0, 0, 0) (.int 0) := ⟨0, rfl, h1, h2, fun h => absurd rfl h, fun h => absurd rfl h⟩
-- the run up to where a new one is made
end
section
-- copies of Builds, at any places (made by wip/u/mkrows.py)
set_option maxRecDepth 20000
theorem iv_st2c {Ls : g_L} {i j : Nat} {x v : Value} (h : (i, x) ∈ Ls) (hi : i ≠ j) (hx : x.category = 1) : (i, x) ∈ g_st1 j v Ls := by
  refine List.mem_cons_of_mem _ (List.mem_filter.mpr ⟨h, ?_⟩)
  have e1 : (i == j) = false := by simpa using hi
  show (!(i == j) && !(i + 1 == j && x.category == 2)) = true
  rw [e1, hx]
  cases (i + 1 == j) <;> rfl
theorem iv_get_set {h : g_H} {q q' : Nat} {c : Nat × g_HC} (hq : q ≠ q') : (h.set q c)[q']? = h[q']? := List.getElem?_set_ne hq
theorem iv_get_self {h : g_H} {q : Nat} {c c' : Nat × g_HC} (hq : h[q]? = some c') : (h.set q c)[q]? = some c := List.getElem?_set_self (List.getElem?_eq_some_iff.mp hq).1
theorem iv_i32 {i : Nat} (h : i ≤ 1000) : (Int32.ofInt (i : Int)).toInt = i := by
  rw [Int32.toInt_ofInt]
  have e : ((Int32.size : Nat) : Int) = 4294967296 := rfl
  exact Int.bmod_eq_of_le (by omega) (by omega)
theorem iv_i32n {i : Nat} (h : i ≤ 1000) : (Int32.ofInt (i : Int)).toNatClampNeg = i := by
  show (Int32.ofInt (i : Int)).toInt.toNat = i
  rw [iv_i32 h]
  rfl
theorem iv_i32s {i : Nat} (h : i < 1000) : Int32.ofInt (i : Int) + Int32.ofInt 1 = Int32.ofInt ((i + 1 : Nat) : Int) := by
  refine Int32.toInt_inj.mp ?_
  rw [Int32.toInt_add, iv_i32 (by omega), iv_i32 (show i + 1 ≤ 1000 by omega), show (Int32.ofInt 1).toInt = 1 from rfl]
  exact Int.bmod_eq_of_le (by omega) (by omega)
theorem iv_i32ge {i n : Nat} (h : i ≤ 1000) (hn : n ≤ 1000) : g_c2 (Int32.ofInt (i : Int)) (Int32.ofNat n) .ge = decide (n ≤ i) := by
  have e : (Int32.ofNat n).toInt = n := by
    have := iv_i32 hn
    exact this
  show decide (Int32.ofNat n ≤ Int32.ofInt (i : Int)) = _
  refine decide_eq_decide.mpr ?_
  rw [Int32.le_iff_toInt_le, e, iv_i32 h]
  omega
section UR
variable {CALL : Nat → List Value → g_H → Nat → Nat → (Option Value → g_H → Prop) → Prop} {o nL : Nat} {ini : Bool} {bc bs : Nat} {cc : ByteArray} {P : g_S → Prop}
theorem iv_static5 (hcl : ∀ S, g_pre CALL o nL ini bc bs cc P S → P S) {pc j n : Nat} {v0 : Int} {ins : Instr} (hI : s_okI cc o (pc, 3, 35, 5, j, n, v0, ins) = true) {as rest : List Value} (hl : as.length = n) (hs : g_sum rest ≤ 8) {Ls : g_L} {c s mc ms : Nat} {h : g_H} (h1 : c + mc ≤ bc) (h2 : s + ms ≤ bs) (hr : CALL j as h mc ms (fun r h' => P (pc + 3, Ls, r.toList ++ rest, c + mc, s + ms, h'))) : P (pc, Ls, as.reverse ++ rest, c, s, h) := by
  have hd := iv_dec hI (by decide) (by decide)
  obtain ⟨-, hQ, hlk⟩ := s_okI_eq hI (by decide)
  have hi : ∃ i, ins = .invokestatic i := by
    clear hd hlk
    revert hQ
    cases ins <;> intro hQ <;> first | exact ⟨_, rfl⟩ | cases hQ
  obtain ⟨i, rfl⟩ := hi
  obtain ⟨ps, hl9⟩ := hlk (by decide) i rfl
  exact hcl _ ⟨_, _, hd, Or.inr (Or.inr (Or.inr (Or.inr (Or.inr (Or.inl ⟨i, 5, j, n, v0, ps, as, rest, mc, ms, rfl, rfl, Or.inr rfl, hl9, rfl, hl, hs, h1, h2, hr⟩)))))⟩
end UR
-- single instructions
section UI
variable {CALL : Nat → List Value → g_H → Nat → Nat → (Option Value → g_H → Prop) → Prop} {o nL : Nat} {ini : Bool} {bc bs : Nat} {cc : ByteArray} {P : g_S → Prop} {pc len : Nat} {ins : Instr} {Ls : g_L} {st rest : List Value} {w : g_W}
theorem ir_ld (hcl : ∀ S, g_pre CALL o nL ini bc bs cc P S → P S) (hd : decode cc pc = .ok (ins, len)) {i : Nat} {t : Value → Bool} {v : Value} (hl : g_load ins = some (i, len, t)) (hv : (i, v) ∈ Ls) (ht : t v = true) (k : P (pc + len, Ls, v :: st, w)) : P (pc, Ls, st, w) := hcl _ ⟨ins, len, hd, Or.inl (Or.inr (Or.inl ⟨i, t, v, hl, hv, ht, k⟩))⟩
theorem ir_co (hcl : ∀ S, g_pre CALL o nL ini bc bs cc P S → P S) (hd : decode cc pc = .ok (ins, len)) {v : Value} (hl : g_con ins = some (len, v)) (k : P (pc + len, Ls, v :: st, w)) : P (pc, Ls, st, w) := hcl _ ⟨ins, len, hd, Or.inl (Or.inl ⟨v, hl, k⟩)⟩
theorem ir_st (hcl : ∀ S, g_pre CALL o nL ini bc bs cc P S → P S) (hd : decode cc pc = .ok (ins, len)) {i : Nat} {t : Value → Bool} {v : Value} (hl : g_stor ins = some (i, len, false, t)) (ht : t v = true) (hi : i < nL) (k : P (pc + len, g_st1 i v Ls, rest, w)) : P (pc, Ls, v :: rest, w) := hcl _ ⟨ins, len, hd, Or.inl (Or.inr (Or.inr (Or.inl ⟨i, t, v, rest, hl, rfl, ht, hi, k⟩)))⟩
theorem ir_ii (hcl : ∀ S, g_pre CALL o nL ini bc bs cc P S → P S) (hd : decode cc pc = .ok (ins, 3)) {i : Nat} {n : Int} {x : Int32} (hl : ins = .iinc i n) (hx : (i, Value.int x) ∈ Ls) (hi : i < nL) (k : P (pc + 3, g_st1 i (.int (x + Int32.ofInt n)) Ls, st, w)) : P (pc, Ls, st, w) := hcl _ ⟨ins, 3, hd, Or.inl (Or.inr (Or.inr (Or.inr (Or.inr (Or.inl ⟨i, n, x, hl, Or.inl rfl, hx, hi, k⟩)))))⟩
theorem ir_pop (hcl : ∀ S, g_pre CALL o nL ini bc bs cc P S → P S) (hd : decode cc pc = .ok (ins, 1)) {v : Value} (hl : ins = .pop) (hv : v.category = 1) (k : P (pc + 1, Ls, rest, w)) : P (pc, Ls, v :: rest, w) := hcl _ ⟨ins, 1, hd, Or.inl (Or.inr (Or.inr (Or.inr (Or.inr (Or.inr (Or.inr (Or.inl ⟨v, rest, hl, rfl, rfl, hv, k⟩)))))))⟩
theorem ir_go (hcl : ∀ S, g_pre CALL o nL ini bc bs cc P S → P S) (hd : decode cc pc = .ok (ins, 3)) {off : Int} (tgt : Nat) (hl : ins = .goto off) (ho : (pc : Int) + off = ((tgt : Nat) : Int)) (k : P (tgt, Ls, st, w)) : P (pc, Ls, st, w) := hcl _ ⟨ins, 3, hd, Or.inr (Or.inr (Or.inl (Or.inl ⟨off, tgt, hl, rfl, ho, k⟩)))⟩
theorem ir_if (hcl : ∀ S, g_pre CALL o nL ini bc bs cc P S → P S) (hd : decode cc pc = .ok (ins, 3)) {cd : ClassFile.Cond} {off : Int} (tgt : Nat) {x : Int32} (hl : ins = .ifCond cd off) (ho : (pc : Int) + off = ((tgt : Nat) : Int)) (k : P (if g_c1 x cd = true then tgt else pc + 3, Ls, rest, w)) : P (pc, Ls, .int x :: rest, w) := hcl _ ⟨ins, 3, hd, Or.inr (Or.inr (Or.inl (Or.inr (Or.inl ⟨cd, off, tgt, x, rest, hl, rfl, ho, rfl, k⟩))))⟩
theorem ir_ic (hcl : ∀ S, g_pre CALL o nL ini bc bs cc P S → P S) (hd : decode cc pc = .ok (ins, 3)) {cd : ClassFile.Cond} {off : Int} (tgt : Nat) {x y : Int32} (hl : ins = .if_icmp cd off) (ho : (pc : Int) + off = ((tgt : Nat) : Int)) (k : P (if g_c2 x y cd = true then tgt else pc + 3, Ls, rest, w)) : P (pc, Ls, .int y :: .int x :: rest, w) := hcl _ ⟨ins, 3, hd, Or.inr (Or.inr (Or.inl (Or.inr (Or.inr (Or.inl ⟨cd, off, tgt, x, y, rest, hl, rfl, ho, rfl, k⟩)))))⟩
theorem ir_n0 (hcl : ∀ S, g_pre CALL o nL ini bc bs cc P S → P S) (hd : decode cc pc = .ok (ins, 3)) {off : Int} (tgt : Nat) (hl : ins = .ifnonnull off) (ho : (pc : Int) + off = ((tgt : Nat) : Int)) (k : P (pc + 3, Ls, rest, w)) : P (pc, Ls, .null :: rest, w) := hcl _ ⟨ins, 3, hd, Or.inr (Or.inr (Or.inl (Or.inr (Or.inr (Or.inr (Or.inr (Or.inl ⟨off, tgt, 0, rest, hl, rfl, ho, Or.inl ⟨rfl, k⟩⟩)))))))⟩
theorem ir_n1 (hcl : ∀ S, g_pre CALL o nL ini bc bs cc P S → P S) (hd : decode cc pc = .ok (ins, 3)) {off : Int} (tgt : Nat) {a : Nat} (hl : ins = .ifnonnull off) (ho : (pc : Int) + off = ((tgt : Nat) : Int)) (k : P (tgt, Ls, rest, w)) : P (pc, Ls, .ref a :: rest, w) := hcl _ ⟨ins, 3, hd, Or.inr (Or.inr (Or.inl (Or.inr (Or.inr (Or.inr (Or.inr (Or.inl ⟨off, tgt, a, rest, hl, rfl, ho, Or.inr ⟨rfl, k⟩⟩)))))))⟩
theorem ir_al (hcl : ∀ S, g_pre CALL o nL ini bc bs cc P S → P S) (hd : decode cc pc = .ok (ins, 1)) {q a t n : Nat} {f : Nat → Value} (hl : ins = .arraylength) (ht : t < 5) (hq : g_get w.2.2 q = some (a, true, t, n, f)) (k : P (pc + 1, Ls, .int (Int32.ofNat n) :: rest, w)) : P (pc, Ls, .ref a :: rest, w) := hcl _ ⟨ins, 1, hd, Or.inr (Or.inr (Or.inr (Or.inl (Or.inr (Or.inr (Or.inr (Or.inr (Or.inr (Or.inr (Or.inr (Or.inr (Or.inr (Or.inr (Or.inr (Or.inl ⟨q, a, t, n, f, rest, hl, rfl, rfl, ht, hq, k⟩)))))))))))))))⟩
theorem ir_ia (hcl : ∀ S, g_pre CALL o nL ini bc bs cc P S → P S) (hd : decode cc pc = .ok (ins, 1)) {q a n : Nat} {f : Nat → Value} {j : Int32} (hl : ins = .iaload) (hq : g_get w.2.2 q = some (a, true, 0, n, f)) (hj : vp_in j n) (k : P (pc + 1, Ls, .int (g_i (f j.toNatClampNeg)) :: rest, w)) : P (pc, Ls, .int j :: .ref a :: rest, w) := hcl _ ⟨ins, 1, hd, Or.inr (Or.inr (Or.inr (Or.inl (Or.inr (Or.inr (Or.inl ⟨q, a, n, f, j, rest, hl, rfl, rfl, hq, hj, k⟩))))))⟩
theorem ir_aa (hcl : ∀ S, g_pre CALL o nL ini bc bs cc P S → P S) (hd : decode cc pc = .ok (ins, 1)) {q a n : Nat} {f : Nat → Value} {j : Int32} (hl : ins = .aaload) (hq : g_get w.2.2 q = some (a, true, 4, n, f)) (hj : vp_in j n) (k : P (pc + 1, Ls, va_rf (g_r (f j.toNatClampNeg)) :: rest, w)) : P (pc, Ls, .int j :: .ref a :: rest, w) := hcl _ ⟨ins, 1, hd, Or.inr (Or.inr (Or.inr (Or.inl (Or.inr (Or.inr (Or.inr (Or.inr (Or.inr (Or.inl ⟨q, a, n, f, j, rest, hl, rfl, rfl, hq, hj, k⟩)))))))))⟩
theorem ir_is (hcl : ∀ S, g_pre CALL o nL ini bc bs cc P S → P S) (hd : decode cc pc = .ok (ins, 1)) {q a n : Nat} {f : Nat → Value} {j x : Int32} {h : g_H} {c s : Nat} (hl : ins = .iastore) (hq : g_get h q = some (a, true, 0, n, f)) (hj : vp_in j n) (k : P (pc + 1, Ls, rest, c, s, h.set q (a, true, 0, n, g_up f j.toNatClampNeg (.int x)))) : P (pc, Ls, .int x :: .int j :: .ref a :: rest, c, s, h) := hcl _ ⟨ins, 1, hd, Or.inr (Or.inr (Or.inr (Or.inl (Or.inr (Or.inr (Or.inr (Or.inr (Or.inr (Or.inr (Or.inl ⟨q, a, n, f, j, x, rest, hl, rfl, rfl, hq, hj, k⟩))))))))))⟩
end UI
theorem iv_copyAll {d p t n a a' : Nat} {f f' : Nat → Value} {h : g_H} (hp : h[p]? = some (a, true, 0, n, f)) (ht : h[t]? = some (a', true, 0, n, f')) (hne : p ≠ t) (hn : n ≤ 900) (hf : ∀ j, j < n → ∃ v : Int32, f j = .int v) : g_run (d + 1) 202 [.ref a, .ref a'] h 0 0 (fun r h' => r = none ∧ ∃ g, h' = h.set t (a', true, 0, n, g) ∧ ∀ j, j < n → g j = f j) := by
  obtain ⟨q1, q2, q3, q4, q5⟩ := s_mi_ok 202 (3, 0, false, 0, 0, 11) (by decide +kernel)
  obtain ⟨c1, c2⟩ := s_codes_ok 202 (3, 0, false, 0, 0, 11) (by decide +kernel)
  rw [show s_codes.getD 202 [] = s_c_202 from rfl] at c1 c2
  have q3 : g_rt 202 = none := q3
  refine ⟨q1, by rw [q2]; exact (show 2 ≤ 3 by decide), ?_⟩
  rw [q5, q2, q4]
  intro P hend hcl
  have loop : ∀ (k i : Nat) (Ls : g_L) (g : Nat → Value), i + k = n → (0, Value.ref a) ∈ Ls → (1, Value.ref a') ∈ Ls → (2, Value.int (Int32.ofInt (i : Int))) ∈ Ls → (∀ j, j < i → g j = f j) → P (2, Ls, [], 0, 0, h.set t (a', true, 0, n, g)) := by
    intro k
    induction k with
    | zero =>
      intro i Ls g hi m0 m1 m2 hg
      have hpt : (h.set t (a', true, 0, n, g))[p]? = some (a, true, 0, n, f) := (iv_get_set (Ne.symm hne)).trans hp
      refine ir_ld hcl (iv_dec (c2 _ (iv_in (c := []) (pc := 2) rfl)) (by decide) (by decide)) rfl m2 rfl ?_
      refine ir_ld hcl (iv_dec (c2 _ (iv_in (c := []) (pc := 3) rfl)) (by decide) (by decide)) rfl m0 rfl ?_
      refine ir_al hcl (iv_dec (c2 _ (iv_in (c := []) (pc := 4) rfl)) (by decide) (by decide)) (q := p) rfl (by decide) hpt ?_
      refine ir_ic hcl (iv_dec (c2 _ (iv_in (c := []) (pc := 5) rfl)) (by decide) (by decide)) 26 rfl rfl ?_
      rw [if_pos (by rw [iv_i32ge (by omega) (by omega)]; exact decide_eq_true (by omega))]
      exact hend _ ⟨Nat.le_refl _, Nat.le_refl _, Or.inr (Or.inr (Or.inr ⟨iv_dec (c2 _ (iv_in (c := []) (pc := 26) rfl)) (by decide) (by decide), q3, rfl, rfl, g, rfl, fun j hj => hg j (by omega)⟩))⟩
    | succ k ih =>
      intro i Ls g hi m0 m1 m2 hg
      have hpt : (h.set t (a', true, 0, n, g))[p]? = some (a, true, 0, n, f) := (iv_get_set (Ne.symm hne)).trans hp
      have htt : (h.set t (a', true, 0, n, g))[t]? = some (a', true, 0, n, g) := iv_get_self ht
      have hvi : vp_in (Int32.ofInt (i : Int)) n := fun hv => by
        rcases hv with hv | hv
        · rw [Int32.lt_iff_toInt_lt, iv_i32 (show i ≤ 1000 by omega), show (0 : Int32).toInt = 0 from rfl] at hv
          omega
        · rw [iv_i32n (show i ≤ 1000 by omega)] at hv
          omega
      refine ir_ld hcl (iv_dec (c2 _ (iv_in (c := []) (pc := 2) rfl)) (by decide) (by decide)) rfl m2 rfl ?_
      refine ir_ld hcl (iv_dec (c2 _ (iv_in (c := []) (pc := 3) rfl)) (by decide) (by decide)) rfl m0 rfl ?_
      refine ir_al hcl (iv_dec (c2 _ (iv_in (c := []) (pc := 4) rfl)) (by decide) (by decide)) (q := p) rfl (by decide) hpt ?_
      refine ir_ic hcl (iv_dec (c2 _ (iv_in (c := []) (pc := 5) rfl)) (by decide) (by decide)) 26 rfl rfl ?_
      rw [if_neg (by rw [iv_i32ge (by omega) (by omega), decide_eq_true_eq]; omega)]
      refine ir_ld hcl (iv_dec (c2 _ (iv_in (c := []) (pc := 8) rfl)) (by decide) (by decide)) rfl m2 rfl ?_
      refine ir_ld hcl (iv_dec (c2 _ (iv_in (c := []) (pc := 9) rfl)) (by decide) (by decide)) rfl m1 rfl ?_
      refine ir_al hcl (iv_dec (c2 _ (iv_in (c := []) (pc := 10) rfl)) (by decide) (by decide)) (q := t) rfl (by decide) htt ?_
      refine ir_ic hcl (iv_dec (c2 _ (iv_in (c := []) (pc := 11) rfl)) (by decide) (by decide)) 26 rfl rfl ?_
      rw [if_neg (by rw [iv_i32ge (by omega) (by omega), decide_eq_true_eq]; omega)]
      refine ir_ld hcl (iv_dec (c2 _ (iv_in (c := []) (pc := 14) rfl)) (by decide) (by decide)) rfl m1 rfl ?_
      refine ir_ld hcl (iv_dec (c2 _ (iv_in (c := []) (pc := 15) rfl)) (by decide) (by decide)) rfl m2 rfl ?_
      refine ir_ld hcl (iv_dec (c2 _ (iv_in (c := []) (pc := 16) rfl)) (by decide) (by decide)) rfl m0 rfl ?_
      refine ir_ld hcl (iv_dec (c2 _ (iv_in (c := []) (pc := 17) rfl)) (by decide) (by decide)) rfl m2 rfl ?_
      refine ir_ia hcl (iv_dec (c2 _ (iv_in (c := []) (pc := 18) rfl)) (by decide) (by decide)) (q := p) rfl hpt hvi ?_
      refine ir_is hcl (iv_dec (c2 _ (iv_in (c := []) (pc := 19) rfl)) (by decide) (by decide)) (q := t) rfl htt hvi ?_
      refine ir_ii hcl (iv_dec (c2 _ (iv_in (c := []) (pc := 20) rfl)) (by decide) (by decide)) rfl m2 (by decide) ?_
      refine ir_go hcl (iv_dec (c2 _ (iv_in (c := []) (pc := 23) rfl)) (by decide) (by decide)) 2 rfl rfl ?_
      rw [iv_i32n (show i ≤ 1000 by omega), List.set_set]
      obtain ⟨v, hv⟩ := hf i (by omega)
      refine ih (i + 1) _ _ (by omega) (iv_st2c m0 (by decide) rfl) (iv_st2c m1 (by decide) rfl) ?_ (fun j hj => ?_)
      · rw [← iv_i32s (show i < 1000 by omega)]
        exact List.mem_cons_self
      · unfold g_up
        by_cases e : j = i
        · rw [if_pos e, e, hv]
          rfl
        · rw [if_neg e]
          exact hg j (by omega)
  show P (0, [(0, .ref a), (1, .ref a')], [], 0, 0, h)
  refine ir_co hcl (iv_dec (c2 _ (iv_in (c := []) (pc := 0) rfl)) (by decide) (by decide)) rfl ?_
  refine ir_st hcl (iv_dec (c2 _ (iv_in (c := []) (pc := 1) rfl)) (by decide) (by decide)) rfl rfl (by decide) ?_
  have h0 : h.set t (a', true, 0, n, f') = h := by
    obtain ⟨h1, h2⟩ := List.getElem?_eq_some_iff.mp ht
    rw [← h2]
    exact List.set_getElem_self h1
  rw [← h0]
  exact loop n 0 _ f' (by omega) (iv_st2c (List.mem_cons_self) (by decide) rfl) (iv_st2c (List.mem_cons_of_mem _ List.mem_cons_self) (by decide) rfl) (List.mem_cons_self) (fun j hj => absurd hj (by omega))
/-- how long a Build's rows are -/
def iv_ln (k : Nat) : Nat := if k < 5 then 14 else if k < 7 then 16 else 10
/-- a Build at a place, its rows behind it -/
def iv_bd (h : g_H) (p a : Nat) (ad : Nat → Nat) (f : Nat → Value) (F : Nat → Nat → Value) : Prop := h[p]? = some (a, false, 1, 11, f) ∧ ∀ k, k < 9 → f k = .ref (ad k) ∧ h[p + 1 + k]? = some (ad k, true, 0, iv_ln k, F k)
/-- rows of numbers -/
def iv_bi (f : Nat → Value) (F : Nat → Nat → Value) : Prop := (∃ v : Int32, f 9 = .int v) ∧ (∃ v : Int32, f 10 = .int v) ∧ ∀ k j, k < 9 → j < iv_ln k → ∃ v : Int32, F k j = .int v
theorem iv_ln_le (k : Nat) : iv_ln k ≤ 900 := by
  unfold iv_ln
  split
  · decide
  · split <;> decide
/-- the first rows are copied -/
def iv_cps (t : Nat) (adt : Nat → Nat) (F : Nat → Nat → Value) (k : Nat) (h h' : g_H) : Prop := h'.length = h.length ∧ (∀ q, ¬ (t + 1 ≤ q ∧ q < t + 1 + k) → h'[q]? = h[q]?) ∧ ∀ i, i < k → ∃ G, h'[t + 1 + i]? = some (adt i, true, 0, iv_ln i, G) ∧ ∀ j, j < iv_ln i → G j = F i j
theorem iv_cps_s {t k : Nat} {adt : Nat → Nat} {F : Nat → Nat → Value} {h h1 : g_H} {g : Nat → Value} (hc : iv_cps t adt F k h h1) {c : Nat × g_HC} (hl : h1[t + 1 + k]? = some c) (hg : ∀ j, j < iv_ln k → g j = F k j) : iv_cps t adt F (k + 1) h (h1.set (t + 1 + k) (adt k, true, 0, iv_ln k, g)) := by
  refine ⟨by rw [List.length_set]; exact hc.1, fun q hq => ?_, fun i hi => ?_⟩
  · rw [iv_get_set (by omega)]
    exact hc.2.1 q (by omega)
  · by_cases e : i = k
    · subst e
      exact ⟨g, iv_get_self hl, hg⟩
    · obtain ⟨G, g1, g2⟩ := hc.2.2 i (by omega)
      exact ⟨G, by rw [iv_get_set (by omega)]; exact g1, g2⟩
theorem iv_copyB {d s t a a' : Nat} {ad ad' : Nat → Nat} {f f' : Nat → Value} {F F' : Nat → Nat → Value} {h : g_H} (hs : iv_bd h s a ad f F) (ht : iv_bd h t a' ad' f' F') (hi : iv_bi f F) (hne : s + 9 < t ∨ t + 9 < s) : g_run (d + 2) 201 [.ref a', .ref a] h 0 0 (fun r h' => r = none ∧ h'.length = h.length ∧ (∀ q, ¬ (t ≤ q ∧ q ≤ t + 9) → h'[q]? = h[q]?) ∧ ∃ f2 F2, iv_bd h' t a' ad' f2 F2 ∧ f2 9 = f 9 ∧ f2 10 = f 10 ∧ ∀ k j, k < 9 → j < iv_ln k → F2 k j = F k j) := by
  obtain ⟨q1, q2, q3, q4, q5⟩ := s_mi_ok 201 (2, 0, false, 0, 0, 1) (by decide +kernel)
  obtain ⟨c1, c2⟩ := s_codes_ok 201 (2, 0, false, 0, 0, 1) (by decide +kernel)
  rw [show s_codes.getD 201 [] = s_c_201 from rfl] at c1 c2
  have q3 : g_rt 201 = none := q3
  refine ⟨q1, by rw [q2]; exact (show 2 ≤ 2 by decide), ?_⟩
  rw [q5, q2, q4]
  intro P hend hcl
  show P (0, [(0, .ref a'), (1, .ref a)], [], 0, 0, h)
  have m0 : ((0 : Nat), Value.ref a') ∈ ([(0, .ref a'), (1, .ref a)] : g_L) := List.mem_cons_self
  have m1 : ((1 : Nat), Value.ref a) ∈ ([(0, .ref a'), (1, .ref a)] : g_L) := List.mem_cons_of_mem _ List.mem_cons_self
  have k0 : iv_cps t ad' F 0 h h := ⟨rfl, fun _ _ => rfl, fun i hi => absurd hi (by omega)⟩
  have s0 : h[s]? = some (a, false, 1, 11, f) := (k0.2.1 s (by omega)).trans hs.1
  have t0 : h[t]? = some (a', false, 1, 11, f') := (k0.2.1 t (by omega)).trans ht.1
  have u0 : h[s + 1 + 0]? = some (ad 0, true, 0, iv_ln 0, F 0) := (k0.2.1 _ (by omega)).trans (hs.2 0 (by decide)).2
  have v0 : h[t + 1 + 0]? = some (ad' 0, true, 0, iv_ln 0, F' 0) := (k0.2.1 _ (by omega)).trans (ht.2 0 (by decide)).2
  refine ir_ld hcl (iv_dec (c2 _ (iv_in (c := []) (pc := 0) rfl)) (by decide) (by decide)) rfl m1 rfl ?_
  refine iv_getfield hcl (c2 _ (iv_in (c := []) (pc := 1) rfl)) (Or.inl rfl) (q := s) (n := 11) (f := f) s0 (by decide) ?_
  rw [(hs.2 0 (by decide)).1]
  refine ir_ld hcl (iv_dec (c2 _ (iv_in (c := []) (pc := 4) rfl)) (by decide) (by decide)) rfl m0 rfl ?_
  refine iv_getfield hcl (c2 _ (iv_in (c := []) (pc := 5) rfl)) (Or.inl rfl) (q := t) (n := 11) (f := f') t0 (by decide) ?_
  rw [(ht.2 0 (by decide)).1]
  refine iv_static5 (as := [.ref (ad 0), .ref (ad' 0)]) (rest := []) hcl (c2 _ (iv_in (c := []) (pc := 8) rfl)) rfl (by decide) (by decide) (by decide) (g_run_mono (iv_copyAll (d := d) u0 v0 (by omega) (iv_ln_le _) (fun j hj => hi.2.2 0 j (by decide) hj)) (fun r h1 hp => ?_))
  obtain ⟨rfl, g, rfl, hg⟩ := hp
  have k1 := iv_cps_s k0 v0 hg
  generalize h.set (t + 1 + 0) (ad' 0, true, 0, iv_ln 0, g) = h1 at k1
  clear hg g s0 t0 u0 v0
  have s1 : h1[s]? = some (a, false, 1, 11, f) := (k1.2.1 s (by omega)).trans hs.1
  have t1 : h1[t]? = some (a', false, 1, 11, f') := (k1.2.1 t (by omega)).trans ht.1
  have u1 : h1[s + 1 + 1]? = some (ad 1, true, 0, iv_ln 1, F 1) := (k1.2.1 _ (by omega)).trans (hs.2 1 (by decide)).2
  have v1 : h1[t + 1 + 1]? = some (ad' 1, true, 0, iv_ln 1, F' 1) := (k1.2.1 _ (by omega)).trans (ht.2 1 (by decide)).2
  refine ir_ld hcl (iv_dec (c2 _ (iv_in (c := []) (pc := 11) rfl)) (by decide) (by decide)) rfl m1 rfl ?_
  refine iv_getfield hcl (c2 _ (iv_in (c := []) (pc := 12) rfl)) (Or.inl rfl) (q := s) (n := 11) (f := f) s1 (by decide) ?_
  rw [(hs.2 1 (by decide)).1]
  refine ir_ld hcl (iv_dec (c2 _ (iv_in (c := []) (pc := 15) rfl)) (by decide) (by decide)) rfl m0 rfl ?_
  refine iv_getfield hcl (c2 _ (iv_in (c := []) (pc := 16) rfl)) (Or.inl rfl) (q := t) (n := 11) (f := f') t1 (by decide) ?_
  rw [(ht.2 1 (by decide)).1]
  refine iv_static5 (as := [.ref (ad 1), .ref (ad' 1)]) (rest := []) hcl (c2 _ (iv_in (c := []) (pc := 19) rfl)) rfl (by decide) (by decide) (by decide) (g_run_mono (iv_copyAll (d := d) u1 v1 (by omega) (iv_ln_le _) (fun j hj => hi.2.2 1 j (by decide) hj)) (fun r h2 hp => ?_))
  obtain ⟨rfl, g, rfl, hg⟩ := hp
  have k2 := iv_cps_s k1 v1 hg
  generalize h1.set (t + 1 + 1) (ad' 1, true, 0, iv_ln 1, g) = h2 at k2
  clear hg g s1 t1 u1 v1
  have s2 : h2[s]? = some (a, false, 1, 11, f) := (k2.2.1 s (by omega)).trans hs.1
  have t2 : h2[t]? = some (a', false, 1, 11, f') := (k2.2.1 t (by omega)).trans ht.1
  have u2 : h2[s + 1 + 2]? = some (ad 2, true, 0, iv_ln 2, F 2) := (k2.2.1 _ (by omega)).trans (hs.2 2 (by decide)).2
  have v2 : h2[t + 1 + 2]? = some (ad' 2, true, 0, iv_ln 2, F' 2) := (k2.2.1 _ (by omega)).trans (ht.2 2 (by decide)).2
  refine ir_ld hcl (iv_dec (c2 _ (iv_in (c := []) (pc := 22) rfl)) (by decide) (by decide)) rfl m1 rfl ?_
  refine iv_getfield hcl (c2 _ (iv_in (c := []) (pc := 23) rfl)) (Or.inl rfl) (q := s) (n := 11) (f := f) s2 (by decide) ?_
  rw [(hs.2 2 (by decide)).1]
  refine ir_ld hcl (iv_dec (c2 _ (iv_in (c := []) (pc := 26) rfl)) (by decide) (by decide)) rfl m0 rfl ?_
  refine iv_getfield hcl (c2 _ (iv_in (c := []) (pc := 27) rfl)) (Or.inl rfl) (q := t) (n := 11) (f := f') t2 (by decide) ?_
  rw [(ht.2 2 (by decide)).1]
  refine iv_static5 (as := [.ref (ad 2), .ref (ad' 2)]) (rest := []) hcl (c2 _ (iv_in (c := []) (pc := 30) rfl)) rfl (by decide) (by decide) (by decide) (g_run_mono (iv_copyAll (d := d) u2 v2 (by omega) (iv_ln_le _) (fun j hj => hi.2.2 2 j (by decide) hj)) (fun r h3 hp => ?_))
  obtain ⟨rfl, g, rfl, hg⟩ := hp
  have k3 := iv_cps_s k2 v2 hg
  generalize h2.set (t + 1 + 2) (ad' 2, true, 0, iv_ln 2, g) = h3 at k3
  clear hg g s2 t2 u2 v2
  have s3 : h3[s]? = some (a, false, 1, 11, f) := (k3.2.1 s (by omega)).trans hs.1
  have t3 : h3[t]? = some (a', false, 1, 11, f') := (k3.2.1 t (by omega)).trans ht.1
  have u3 : h3[s + 1 + 3]? = some (ad 3, true, 0, iv_ln 3, F 3) := (k3.2.1 _ (by omega)).trans (hs.2 3 (by decide)).2
  have v3 : h3[t + 1 + 3]? = some (ad' 3, true, 0, iv_ln 3, F' 3) := (k3.2.1 _ (by omega)).trans (ht.2 3 (by decide)).2
  refine ir_ld hcl (iv_dec (c2 _ (iv_in (c := []) (pc := 33) rfl)) (by decide) (by decide)) rfl m1 rfl ?_
  refine iv_getfield hcl (c2 _ (iv_in (c := []) (pc := 34) rfl)) (Or.inl rfl) (q := s) (n := 11) (f := f) s3 (by decide) ?_
  rw [(hs.2 3 (by decide)).1]
  refine ir_ld hcl (iv_dec (c2 _ (iv_in (c := []) (pc := 37) rfl)) (by decide) (by decide)) rfl m0 rfl ?_
  refine iv_getfield hcl (c2 _ (iv_in (c := []) (pc := 38) rfl)) (Or.inl rfl) (q := t) (n := 11) (f := f') t3 (by decide) ?_
  rw [(ht.2 3 (by decide)).1]
  refine iv_static5 (as := [.ref (ad 3), .ref (ad' 3)]) (rest := []) hcl (c2 _ (iv_in (c := []) (pc := 41) rfl)) rfl (by decide) (by decide) (by decide) (g_run_mono (iv_copyAll (d := d) u3 v3 (by omega) (iv_ln_le _) (fun j hj => hi.2.2 3 j (by decide) hj)) (fun r h4 hp => ?_))
  obtain ⟨rfl, g, rfl, hg⟩ := hp
  have k4 := iv_cps_s k3 v3 hg
  generalize h3.set (t + 1 + 3) (ad' 3, true, 0, iv_ln 3, g) = h4 at k4
  clear hg g s3 t3 u3 v3
  have s4 : h4[s]? = some (a, false, 1, 11, f) := (k4.2.1 s (by omega)).trans hs.1
  have t4 : h4[t]? = some (a', false, 1, 11, f') := (k4.2.1 t (by omega)).trans ht.1
  have u4 : h4[s + 1 + 4]? = some (ad 4, true, 0, iv_ln 4, F 4) := (k4.2.1 _ (by omega)).trans (hs.2 4 (by decide)).2
  have v4 : h4[t + 1 + 4]? = some (ad' 4, true, 0, iv_ln 4, F' 4) := (k4.2.1 _ (by omega)).trans (ht.2 4 (by decide)).2
  refine ir_ld hcl (iv_dec (c2 _ (iv_in (c := []) (pc := 44) rfl)) (by decide) (by decide)) rfl m1 rfl ?_
  refine iv_getfield hcl (c2 _ (iv_in (c := []) (pc := 45) rfl)) (Or.inl rfl) (q := s) (n := 11) (f := f) s4 (by decide) ?_
  rw [(hs.2 4 (by decide)).1]
  refine ir_ld hcl (iv_dec (c2 _ (iv_in (c := []) (pc := 48) rfl)) (by decide) (by decide)) rfl m0 rfl ?_
  refine iv_getfield hcl (c2 _ (iv_in (c := []) (pc := 49) rfl)) (Or.inl rfl) (q := t) (n := 11) (f := f') t4 (by decide) ?_
  rw [(ht.2 4 (by decide)).1]
  refine iv_static5 (as := [.ref (ad 4), .ref (ad' 4)]) (rest := []) hcl (c2 _ (iv_in (c := []) (pc := 52) rfl)) rfl (by decide) (by decide) (by decide) (g_run_mono (iv_copyAll (d := d) u4 v4 (by omega) (iv_ln_le _) (fun j hj => hi.2.2 4 j (by decide) hj)) (fun r h5 hp => ?_))
  obtain ⟨rfl, g, rfl, hg⟩ := hp
  have k5 := iv_cps_s k4 v4 hg
  generalize h4.set (t + 1 + 4) (ad' 4, true, 0, iv_ln 4, g) = h5 at k5
  clear hg g s4 t4 u4 v4
  have s5 : h5[s]? = some (a, false, 1, 11, f) := (k5.2.1 s (by omega)).trans hs.1
  have t5 : h5[t]? = some (a', false, 1, 11, f') := (k5.2.1 t (by omega)).trans ht.1
  have u5 : h5[s + 1 + 5]? = some (ad 5, true, 0, iv_ln 5, F 5) := (k5.2.1 _ (by omega)).trans (hs.2 5 (by decide)).2
  have v5 : h5[t + 1 + 5]? = some (ad' 5, true, 0, iv_ln 5, F' 5) := (k5.2.1 _ (by omega)).trans (ht.2 5 (by decide)).2
  refine ir_ld hcl (iv_dec (c2 _ (iv_in (c := []) (pc := 55) rfl)) (by decide) (by decide)) rfl m1 rfl ?_
  refine iv_getfield hcl (c2 _ (iv_in (c := []) (pc := 56) rfl)) (Or.inl rfl) (q := s) (n := 11) (f := f) s5 (by decide) ?_
  rw [(hs.2 5 (by decide)).1]
  refine ir_ld hcl (iv_dec (c2 _ (iv_in (c := []) (pc := 59) rfl)) (by decide) (by decide)) rfl m0 rfl ?_
  refine iv_getfield hcl (c2 _ (iv_in (c := []) (pc := 60) rfl)) (Or.inl rfl) (q := t) (n := 11) (f := f') t5 (by decide) ?_
  rw [(ht.2 5 (by decide)).1]
  refine iv_static5 (as := [.ref (ad 5), .ref (ad' 5)]) (rest := []) hcl (c2 _ (iv_in (c := []) (pc := 63) rfl)) rfl (by decide) (by decide) (by decide) (g_run_mono (iv_copyAll (d := d) u5 v5 (by omega) (iv_ln_le _) (fun j hj => hi.2.2 5 j (by decide) hj)) (fun r h6 hp => ?_))
  obtain ⟨rfl, g, rfl, hg⟩ := hp
  have k6 := iv_cps_s k5 v5 hg
  generalize h5.set (t + 1 + 5) (ad' 5, true, 0, iv_ln 5, g) = h6 at k6
  clear hg g s5 t5 u5 v5
  have s6 : h6[s]? = some (a, false, 1, 11, f) := (k6.2.1 s (by omega)).trans hs.1
  have t6 : h6[t]? = some (a', false, 1, 11, f') := (k6.2.1 t (by omega)).trans ht.1
  have u6 : h6[s + 1 + 6]? = some (ad 6, true, 0, iv_ln 6, F 6) := (k6.2.1 _ (by omega)).trans (hs.2 6 (by decide)).2
  have v6 : h6[t + 1 + 6]? = some (ad' 6, true, 0, iv_ln 6, F' 6) := (k6.2.1 _ (by omega)).trans (ht.2 6 (by decide)).2
  refine ir_ld hcl (iv_dec (c2 _ (iv_in (c := []) (pc := 66) rfl)) (by decide) (by decide)) rfl m1 rfl ?_
  refine iv_getfield hcl (c2 _ (iv_in (c := []) (pc := 67) rfl)) (Or.inl rfl) (q := s) (n := 11) (f := f) s6 (by decide) ?_
  rw [(hs.2 6 (by decide)).1]
  refine ir_ld hcl (iv_dec (c2 _ (iv_in (c := []) (pc := 70) rfl)) (by decide) (by decide)) rfl m0 rfl ?_
  refine iv_getfield hcl (c2 _ (iv_in (c := []) (pc := 71) rfl)) (Or.inl rfl) (q := t) (n := 11) (f := f') t6 (by decide) ?_
  rw [(ht.2 6 (by decide)).1]
  refine iv_static5 (as := [.ref (ad 6), .ref (ad' 6)]) (rest := []) hcl (c2 _ (iv_in (c := []) (pc := 74) rfl)) rfl (by decide) (by decide) (by decide) (g_run_mono (iv_copyAll (d := d) u6 v6 (by omega) (iv_ln_le _) (fun j hj => hi.2.2 6 j (by decide) hj)) (fun r h7 hp => ?_))
  obtain ⟨rfl, g, rfl, hg⟩ := hp
  have k7 := iv_cps_s k6 v6 hg
  generalize h6.set (t + 1 + 6) (ad' 6, true, 0, iv_ln 6, g) = h7 at k7
  clear hg g s6 t6 u6 v6
  have s7 : h7[s]? = some (a, false, 1, 11, f) := (k7.2.1 s (by omega)).trans hs.1
  have t7 : h7[t]? = some (a', false, 1, 11, f') := (k7.2.1 t (by omega)).trans ht.1
  have u7 : h7[s + 1 + 7]? = some (ad 7, true, 0, iv_ln 7, F 7) := (k7.2.1 _ (by omega)).trans (hs.2 7 (by decide)).2
  have v7 : h7[t + 1 + 7]? = some (ad' 7, true, 0, iv_ln 7, F' 7) := (k7.2.1 _ (by omega)).trans (ht.2 7 (by decide)).2
  refine ir_ld hcl (iv_dec (c2 _ (iv_in (c := []) (pc := 77) rfl)) (by decide) (by decide)) rfl m1 rfl ?_
  refine iv_getfield hcl (c2 _ (iv_in (c := []) (pc := 78) rfl)) (Or.inl rfl) (q := s) (n := 11) (f := f) s7 (by decide) ?_
  rw [(hs.2 7 (by decide)).1]
  refine ir_ld hcl (iv_dec (c2 _ (iv_in (c := []) (pc := 81) rfl)) (by decide) (by decide)) rfl m0 rfl ?_
  refine iv_getfield hcl (c2 _ (iv_in (c := []) (pc := 82) rfl)) (Or.inl rfl) (q := t) (n := 11) (f := f') t7 (by decide) ?_
  rw [(ht.2 7 (by decide)).1]
  refine iv_static5 (as := [.ref (ad 7), .ref (ad' 7)]) (rest := []) hcl (c2 _ (iv_in (c := []) (pc := 85) rfl)) rfl (by decide) (by decide) (by decide) (g_run_mono (iv_copyAll (d := d) u7 v7 (by omega) (iv_ln_le _) (fun j hj => hi.2.2 7 j (by decide) hj)) (fun r h8 hp => ?_))
  obtain ⟨rfl, g, rfl, hg⟩ := hp
  have k8 := iv_cps_s k7 v7 hg
  generalize h7.set (t + 1 + 7) (ad' 7, true, 0, iv_ln 7, g) = h8 at k8
  clear hg g s7 t7 u7 v7
  have s8 : h8[s]? = some (a, false, 1, 11, f) := (k8.2.1 s (by omega)).trans hs.1
  have t8 : h8[t]? = some (a', false, 1, 11, f') := (k8.2.1 t (by omega)).trans ht.1
  have u8 : h8[s + 1 + 8]? = some (ad 8, true, 0, iv_ln 8, F 8) := (k8.2.1 _ (by omega)).trans (hs.2 8 (by decide)).2
  have v8 : h8[t + 1 + 8]? = some (ad' 8, true, 0, iv_ln 8, F' 8) := (k8.2.1 _ (by omega)).trans (ht.2 8 (by decide)).2
  refine ir_ld hcl (iv_dec (c2 _ (iv_in (c := []) (pc := 88) rfl)) (by decide) (by decide)) rfl m1 rfl ?_
  refine iv_getfield hcl (c2 _ (iv_in (c := []) (pc := 89) rfl)) (Or.inl rfl) (q := s) (n := 11) (f := f) s8 (by decide) ?_
  rw [(hs.2 8 (by decide)).1]
  refine ir_ld hcl (iv_dec (c2 _ (iv_in (c := []) (pc := 92) rfl)) (by decide) (by decide)) rfl m0 rfl ?_
  refine iv_getfield hcl (c2 _ (iv_in (c := []) (pc := 93) rfl)) (Or.inl rfl) (q := t) (n := 11) (f := f') t8 (by decide) ?_
  rw [(ht.2 8 (by decide)).1]
  refine iv_static5 (as := [.ref (ad 8), .ref (ad' 8)]) (rest := []) hcl (c2 _ (iv_in (c := []) (pc := 96) rfl)) rfl (by decide) (by decide) (by decide) (g_run_mono (iv_copyAll (d := d) u8 v8 (by omega) (iv_ln_le _) (fun j hj => hi.2.2 8 j (by decide) hj)) (fun r h9 hp => ?_))
  obtain ⟨rfl, g, rfl, hg⟩ := hp
  have k9 := iv_cps_s k8 v8 hg
  generalize h8.set (t + 1 + 8) (ad' 8, true, 0, iv_ln 8, g) = h9 at k9
  clear hg g s8 t8 u8 v8
  have s9 : h9[s]? = some (a, false, 1, 11, f) := (k9.2.1 s (by omega)).trans hs.1
  have t9 : h9[t]? = some (a', false, 1, 11, f') := (k9.2.1 t (by omega)).trans ht.1
  obtain ⟨v1, e1⟩ := hi.1
  obtain ⟨v2, e2⟩ := hi.2.1
  refine ir_ld hcl (iv_dec (c2 _ (iv_in (c := []) (pc := 99) rfl)) (by decide) (by decide)) rfl m0 rfl ?_
  refine ir_ld hcl (iv_dec (c2 _ (iv_in (c := []) (pc := 100) rfl)) (by decide) (by decide)) rfl m1 rfl ?_
  refine iv_getfield hcl (c2 _ (iv_in (c := []) (pc := 101) rfl)) (Or.inl rfl) (q := s) (n := 11) (f := f) s9 (by decide) ?_
  rw [e1]
  refine iv_putfield hcl (c2 _ (iv_in (c := []) (pc := 104) rfl)) (Or.inl rfl) (q := t) (n := 11) (f := f') t9 (by decide) (Or.inl (by decide +kernel)) (ty := .int) (by decide +kernel) rfl rfl ?_
  have s10 : (h9.set t (a', false, 1, 11, g_up f' 9 (.int v1)))[s]? = some (a, false, 1, 11, f) := (iv_get_set (by omega)).trans s9
  have t10 : (h9.set t (a', false, 1, 11, g_up f' 9 (.int v1)))[t]? = some (a', false, 1, 11, g_up f' 9 (.int v1)) := iv_get_self t9
  refine ir_ld hcl (iv_dec (c2 _ (iv_in (c := []) (pc := 107) rfl)) (by decide) (by decide)) rfl m0 rfl ?_
  refine ir_ld hcl (iv_dec (c2 _ (iv_in (c := []) (pc := 108) rfl)) (by decide) (by decide)) rfl m1 rfl ?_
  refine iv_getfield hcl (c2 _ (iv_in (c := []) (pc := 109) rfl)) (Or.inl rfl) (q := s) (n := 11) (f := f) s10 (by decide) ?_
  rw [e2]
  refine iv_putfield hcl (c2 _ (iv_in (c := []) (pc := 112) rfl)) (Or.inl rfl) (q := t) (n := 11) (f := g_up f' 9 (.int v1)) t10 (by decide) (Or.inl (by decide +kernel)) (ty := .int) (by decide +kernel) rfl rfl ?_
  rw [List.set_set]
  have tt : ∀ c : Nat × g_HC, (h9.set t c)[t]? = some c := fun c => iv_get_self t9
  refine hend _ ⟨Nat.le_refl _, Nat.le_refl _, Or.inr (Or.inr (Or.inr ⟨iv_dec (c2 _ (iv_in (c := []) (pc := 115) rfl)) (by decide) (by decide), q3, rfl, rfl, by rw [List.length_set]; exact k9.1, fun q hq => ?_, ?_⟩))⟩
  · rw [iv_get_set (by omega)]
    exact k9.2.1 q (by omega)
  · have pick : ∀ i, ∃ G, i < 9 → (h9[t + 1 + i]? = some (ad' i, true, 0, iv_ln i, G) ∧ ∀ j, j < iv_ln i → G j = F i j) := fun i => by
      by_cases hi9 : i < 9
      · obtain ⟨G, hG⟩ := k9.2.2 i hi9
        exact ⟨G, fun _ => hG⟩
      · exact ⟨fun _ => .null, fun h => absurd h hi9⟩
    refine ⟨_, fun i => Classical.choose (pick i), ⟨tt _, fun k hk => ⟨?_, ?_⟩⟩, ?_, ?_, fun k j hk hj => (Classical.choose_spec (pick k) hk).2 j hj⟩
    · show (if k = 10 then _ else if k = 9 then _ else f' k) = _
      rw [if_neg (by omega), if_neg (by omega)]
      exact (ht.2 k hk).1
    · rw [iv_get_set (by omega)]
      exact (Classical.choose_spec (pick k) hk).1
    · rw [e1]
      rfl
    · rw [e2]
      rfl
end
section
-- wheels, meshes, builds: class and reference hold the same (made by wip/u/mklump.py)
set_option maxRecDepth 20000
def y_eqV (v w : y_V) : Bool := Nat.beq v.1 w.1 && (decide (v.2.1 = w.2.1) && (decide (v.2.2.1 = w.2.2.1) && (Nat.beq v.2.2.2.1 w.2.2.2.1 && (decide (v.2.2.2.2.1 = w.2.2.2.2.1) && (Nat.beq v.2.2.2.2.2.1 w.2.2.2.2.2.1 && decide (v.2.2.2.2.2.2 = w.2.2.2.2.2.2))))))
theorem y_eqV_eq {v w : y_V} (h : y_eqV v w = true) : v = w := by
  obtain ⟨a1, a2, a3, a4, a5, a6, a7⟩ := v
  obtain ⟨b1, b2, b3, b4, b5, b6, b7⟩ := w
  unfold y_eqV at h
  simp only [Bool.and_eq_true, Nat.beq_eq, decide_eq_true_eq] at h
  obtain ⟨rfl, rfl, rfl, rfl, rfl, rfl, rfl⟩ := h
  rfl
def y_eqL : List y_V → List y_V → Bool
  | [], [] => true
  | v :: l, w :: m => y_eqV v w && y_eqL l m
  | _, _ => false
theorem y_eqL_eq : ∀ {l m : List y_V}, y_eqL l m = true → l = m
  | [], [], _ => rfl
  | v :: l, w :: m, h => by
    rw [y_eqL, Bool.and_eq_true] at h
    rw [y_eqV_eq h.1, y_eqL_eq h.2]
  | [], _ :: _, h => by cases h
  | _ :: _, [], h => by cases h
def y_eqR (a b : y_R1) : Bool := decide (a.1 = b.1) && (Nat.beq a.2.1 b.2.1 && (Nat.beq a.2.2.1 b.2.2.1 && (Nat.beq a.2.2.2.1 b.2.2.2.1 && y_eqL a.2.2.2.2 b.2.2.2.2)))
theorem y_eqR_eq {a b : y_R1} (h : y_eqR a b = true) : a = b := by
  obtain ⟨a1, a2, a3, a4, a5⟩ := a
  obtain ⟨b1, b2, b3, b4, b5⟩ := b
  unfold y_eqR at h
  simp only [Bool.and_eq_true, Nat.beq_eq, decide_eq_true_eq] at h
  obtain ⟨rfl, rfl, rfl, rfl, h⟩ := h
  rw [y_eqL_eq h]
/-- a role that may be read only -/
def y_ro1 (a b : y_R1) : Bool := (y_eqR a b && !y_rov b) || (match a.2.2.2.2 with
  | [v] => decide (a.1 = true) && (Nat.beq a.2.2.2.1 0 && y_eqR b (true, a.2.1, a.2.2.1, 0, [v, v, v]))
  | _ => false)
theorem y_ro1_eq {a b : y_R1} (h : y_ro1 a b = true) : (a = b ∧ y_rov b = false) ∨ ∃ (t n : Nat) (v : y_V), a = (true, t, n, 0, [v]) ∧ b = (true, t, n, 0, [v, v, v]) := by
  obtain ⟨a1, a2, a3, a4, a5⟩ := a
  unfold y_ro1 at h
  rw [Bool.or_eq_true, Bool.and_eq_true, Bool.not_eq_true'] at h
  rcases h with h | h
  · exact Or.inl ⟨y_eqR_eq h.1, h.2⟩
  · rcases a5 with _ | ⟨v, _ | ⟨w, l⟩⟩
    · cases h
    · have h : (decide (a1 = true) && (Nat.beq a4 0 && y_eqR b (true, a2, a3, 0, [v, v, v]))) = true := h
      simp only [Bool.and_eq_true, decide_eq_true_eq, Nat.beq_eq] at h
      obtain ⟨h1, h2, h3⟩ := h
      subst h1 h2
      exact Or.inr ⟨a2, a3, v, rfl, y_eqR_eq h3⟩
    · cases h
def y_roB (Ra Rb : y_R) : Bool := (List.range Ra.1.length).all (fun r => match Ra.1[r]? with
  | some a => (match Rb.1[r]? with
    | some b => y_ro1 a b
    | none => false)
  | none => false) && (decide (Ra.1.length = Rb.1.length) && decide (Ra.2 = Rb.2))
theorem y_roB_eq {Ra Rb : y_R} (h : y_roB Ra Rb = true) : (∀ r, r < Ra.1.length → ∃ a b, Ra.1[r]? = some a ∧ Rb.1[r]? = some b ∧ y_ro1 a b = true) ∧ Ra.1.length = Rb.1.length ∧ Ra.2 = Rb.2 := by
  unfold y_roB at h
  rw [Bool.and_eq_true, Bool.and_eq_true, decide_eq_true_eq, decide_eq_true_eq] at h
  refine ⟨fun r hr => ?_, h.2⟩
  have h1 := List.all_eq_true.mp h.1 r (List.mem_range.mpr hr)
  split at h1
  next a ea =>
    split at h1
    next b eb => exact ⟨a, b, ea, eb, h1⟩
    next => cases h1
  next => cases h1
theorem y_ro_at {Ra Rb : y_R} (h : y_roB Ra Rb = true) {r : Nat} {a : y_R1} (ha : Ra.1[r]? = some a) : ∃ b, Rb.1[r]? = some b ∧ y_ro1 a b = true := by
  obtain ⟨h1, -, -⟩ := y_roB_eq h
  obtain ⟨a', b, e1, e2, e3⟩ := h1 r (List.getElem?_eq_some_iff.mp ha).1
  rw [ha] at e1
  cases e1
  exact ⟨b, e2, e3⟩
theorem y_ro_ta {Ra Rb : y_R} (h : y_roB Ra Rb = true) {r : Nat} {b : y_R1} (hb : Rb.1[r]? = some b) : ∃ a, Ra.1[r]? = some a ∧ y_ro1 a b = true := by
  obtain ⟨h1, h2, -⟩ := y_roB_eq h
  obtain ⟨a, b', e1, e2, e3⟩ := h1 r (by rw [h2]; exact (List.getElem?_eq_some_iff.mp hb).1)
  rw [hb] at e2
  cases e2
  exact ⟨a, e1, e3⟩
theorem iv_ctZ {h : g_H} {q a n t : Nat} {b : Bool} {f : Nat → Value} (e : h[q]? = some (a, b, t, n, f)) (j : Nat) : iv_ct h q j = f j := by
  unfold iv_ct
  rw [e]
theorem y_ro_fwd {Rr : y_R} (hf : y_roB y_Rc Rr = true) {W : y_W} {β : Nat → Int} {h : g_H} (H : y_H (iv_ct h) y_Rc W β h) : y_H (iv_ct h) Rr W β h := by
  refine ⟨H.1, fun q a r hq => ?_, fun p hp => ?_⟩
  · obtain ⟨ro, f, h1, h2, h3⟩ := H.2.1 q a r hq
    obtain ⟨b, hb, hab⟩ := y_ro_at hf h1
    rcases y_ro1_eq hab with ⟨rfl, -⟩ | ⟨t, n, v, rfl, rfl⟩
    · exact ⟨_, f, hb, h2, h3⟩
    · refine ⟨_, f, hb, h2, fun j hj => ?_⟩
      rcases h3 j hj with g | g
      · cases g.1
      · exact Or.inr ⟨g.1, fun _ => (iv_ctZ h2 j).symm⟩
  · obtain ⟨u1, q, a, ro, f, n, v1, v2, v3, v4, v5⟩ := H.2.2 p (by rw [(y_roB_eq hf).2.2]; exact hp)
    obtain ⟨b, hb, hab⟩ := y_ro_at hf v2
    rcases y_ro1_eq hab with ⟨rfl, -⟩ | ⟨t, n', v, rfl, rfl⟩
    · exact ⟨u1, q, a, _, f, n, v1, hb, v3, v4, v5⟩
    · exact ⟨u1, q, a, _, f, n, v1, hb, v3, v4, v5⟩
theorem y_ro_bwd {Rr : y_R} (hf : y_roB y_Rc Rr = true) {φ : Nat → Nat → Value} {W' : y_W} {β' : Nat → Int} {h' : g_H} (H' : y_H φ Rr W' β' h') : y_H (iv_ct h') y_Rc W' β' h' := by
  refine ⟨H'.1, fun q a r hq => ?_, fun p hp => ?_⟩
  · obtain ⟨b, f, h1, h2, h3⟩ := H'.2.1 q a r hq
    obtain ⟨ro, hro, hab⟩ := y_ro_ta hf h1
    rcases y_ro1_eq hab with ⟨rfl, -⟩ | ⟨t, n, v, rfl, rfl⟩
    · refine ⟨_, f, hro, h2, fun j hj => ?_⟩
      rcases h3 j hj with g | g
      · exact Or.inl ⟨g.1, (iv_ctZ h2 j).symm⟩
      · exact Or.inr ⟨g.1, fun h => (y_Rc_no hro h).elim⟩
    · refine ⟨_, f, hro, h2, fun j hj => ?_⟩
      rcases h3 j hj with g | g
      · cases g.1
      · exact Or.inr ⟨g.1, fun h => (y_Rc_no hro h).elim⟩
  · obtain ⟨u1, q, a, ro, f, n, v1, v2, v3, v4, v5⟩ := H'.2.2 p (by rw [← (y_roB_eq hf).2.2]; exact hp)
    obtain ⟨b, hb, hab⟩ := y_ro_ta hf v2
    rcases y_ro1_eq hab with ⟨rfl, -⟩ | ⟨t, n', v, rfl, rfl⟩
    · exact ⟨u1, q, a, _, f, n, v1, hb, v3, v4, v5⟩
    · exact ⟨u1, q, a, _, f, n, v1, hb, v3, v4, v5⟩
/-- what may be read only is as it was -/
def iv_roF (Rr : y_R) (W : y_W) (h h' : g_H) : Prop := ∀ (q a r : Nat) (b : y_R1), W[q]? = some (a, r) → Rr.1[r]? = some b → y_rov b = true → ∃ f, h'[q]? = some (a, b.1, b.2.1, b.2.2.1, f) ∧ ∀ j, j < b.2.2.1 → f j = iv_ct h q j
theorem y_ro_fr {Rr : y_R} {W W' : y_W} {β' : Nat → Int} {h h' : g_H} (hWW : W <+: W') (H' : y_H (iv_ct h) Rr W' β' h') : iv_roF Rr W h h' := by
  intro q a r b h1 h2 h3
  have hw' : W'[q]? = some (a, r) := by
    obtain ⟨t, rfl⟩ := hWW
    rw [List.getElem?_append_left (List.getElem?_eq_some_iff.mp h1).1]
    exact h1
  obtain ⟨b', f, k1, k2, k3⟩ := H'.2.1 q a r hw'
  rw [h2] at k1
  cases k1
  refine ⟨f, k2, fun j hj => ?_⟩
  rcases k3 j hj with g | g
  · exact g.2
  · exact g.2 h3
/-- what holds between calls, its world told -/
def iv_iW (A : Nat → Nat) (W : y_W) (h : g_H) : Prop := (∃ β : Nat → Int, y_H (iv_ct h) y_Rc W β h) ∧ iv_W A W ∧ iv_mod A h
theorem iv_iW_inv {A : Nat → Nat} {W : y_W} {h : g_H} (hI : iv_iW A W h) : iv_inv A h := by
  obtain ⟨⟨β, hH⟩, hW, hM⟩ := hI
  exact ⟨⟨W, β, hH, hW⟩, hM⟩
theorem iv_W_k {A : Nat → Nat} {W W' : y_W} (hW : iv_W A W) (hWW : W <+: W') : iv_W A W' := fun q r hr => by
  have h1 := hW q r hr
  obtain ⟨t, rfl⟩ := hWW
  rw [List.getElem?_append_left (List.getElem?_eq_some_iff.mp h1).1]
  exact h1
/-- what a run of the class that only reads the roles told leaves -/
theorem iv_backR {Rr : y_R} (hf : y_roB y_Rc Rr = true) {A : Nat → Nat} {W W' : y_W} {β' : Nat → Int} {h h' : g_H} {M0 : xa_M} (hW : iv_W A W) (hM : xa_H xm_I A M0 h h) (hInv : xm_Inv M0) (hWW : W <+: W') (hH' : y_H (iv_ct h) Rr W' β' h') : ∃ W', W <+: W' ∧ iv_iW A W' h' ∧ iv_roF Rr W h h' ∧ ∀ M : xa_M, xa_H xm_I A M h h → xa_H xm_I A M h' h' := by
  have hW' := iv_W_k hW hWW
  have hB := y_ro_bwd hf hH'
  have km : ∀ M : xa_M, xa_H xm_I A M h h → xa_H xm_I A M h' h' := fun M hM => by
    refine ⟨rfl, fun q ro S hq => ?_, fun _ _ => rfl⟩
    obtain ⟨r, ro', e1, e2, e3, e4, e5, e6⟩ := iv_fz hq
    obtain ⟨b, hb, hab⟩ := y_ro_at hf e2
    obtain ⟨f', g1, g2⟩ : ∃ f', h'[q]? = some (A q, ro'.1, ro'.2.1, ro'.2.2.1, f') ∧ ∀ j, j < ro'.2.2.1 → f' j = iv_ct h q j := by
      obtain ⟨b', f', k1, k2, k3⟩ := hH'.2.1 q (A q) r (hW' q r e1)
      rw [hb] at k1
      cases k1
      rcases y_ro1_eq hab with ⟨rfl, -⟩ | ⟨t, n', v, rfl, rfl⟩
      · refine ⟨f', k2, fun j hj => ?_⟩
        rcases k3 j hj with g | g
        · exact g.2
        · exact (y_g_no e6 g.1).elim
      · cases e6
    obtain ⟨f, k1, k2⟩ := hM.2.1 q ro S hq
    rw [e3, e4, e5] at g1
    refine ⟨f', g1, fun j hj => ?_⟩
    rw [g2 j (by rw [e5]; exact hj), iv_ctZ k1]
    exact k2 j hj
  exact ⟨W', hWW, ⟨⟨β', hB⟩, hW', M0, km M0 hM, hInv⟩, y_ro_fr hWW hH', km⟩
/-- a call of the class that only reads the roles told -/
theorem iv_callR {Rr : y_R} (hf : y_roB y_Rc Rr = true) {d j : Nat} {K : y_Call} (hK : y_CS Rr K (g_run d)) {vs : List y_V} (hs : (K j vs []).isSome = true) {A : Nat → Nat} {W : y_W} {h : g_H} (hI : iv_iW A W h) {xs : List Value} (hx : ∀ (β : Nat → Int), y_gA W β vs xs) : g_run d j xs h 0 0 (fun _ h' => ∃ W', W <+: W' ∧ iv_iW A W' h' ∧ iv_roF Rr W h h' ∧ ∀ M : xa_M, xa_H xm_I A M h h → xa_H xm_I A M h' h') := by
  obtain ⟨outs, e⟩ := Option.isSome_iff_exists.mp hs
  obtain ⟨⟨β, hH⟩, hW, M, hM, hInv⟩ := hI
  refine hK j vs [] outs e (iv_ct h) W β h xs (y_ro_fwd hf hH) (hx β) (fun q hq => by cases hq) _ (fun out _ W' β' h' x hWW _ _ hH' _ _ _ => ?_)
  exact iv_backR hf hW hM hInv hWW hH'
def y_Rr : y_R := ([
  (false, 11, 12, 0, [(2, 1, 0, 0, 0, 0, 0), (2, 13, 0, 0, 0, 0, 0), (2, 2, 0, 0, 0, 0, 0), (2, 3, 0, 0, 0, 0, 0), (2, 5, 0, 0, 0, 0, 0), (2, 6, 0, 0, 0, 0, 0), (2, 7, 0, 0, 0, 0, 0), (2, 8, 0, 0, 0, 0, 0), (2, 9, 0, 0, 0, 0, 0), (2, 10, 0, 0, 0, 0, 0), (2, 11, 0, 0, 0, 0, 0), (2, 11, 0, 0, 0, 0, 0)]),
  (false, 1, 11, 0, [(2, 14, 0, 0, 0, 0, 0), (2, 15, 0, 0, 0, 0, 0), (2, 16, 0, 0, 0, 0, 0), (2, 17, 0, 0, 0, 0, 0), (2, 18, 0, 0, 0, 0, 0), (2, 19, 0, 0, 0, 0, 0), (2, 20, 0, 0, 0, 0, 0), (2, 21, 0, 0, 0, 0, 0), (2, 22, 0, 0, 0, 0, 0), (0, (-2147483648), 2147483647, 0, 0, 0, 0), (0, (-2147483648), 2147483647, 0, 0, 0, 0)]),
  (false, 9, 3, 0, [(2, 23, 0, 0, 0, 0, 0), (2, 24, 0, 0, 0, 0, 0), (0, 0, 1, 0, 0, 0, 0)]),
  (false, 3, 14, 0, [(2, 4, 0, 0, 0, 0, 0), (2, 25, 0, 0, 0, 0, 0), (2, 26, 0, 0, 0, 0, 0), (2, 27, 0, 0, 0, 0, 0), (2, 28, 0, 0, 0, 0, 0), (2, 29, 0, 0, 0, 0, 0), (2, 30, 0, 0, 0, 0, 0), (2, 31, 0, 0, 0, 0, 0), (2, 32, 0, 0, 0, 0, 0), (2, 33, 0, 0, 0, 0, 0), (0, (-2147483648), 2147483647, 0, 0, 0, 0), (1, (-9223372036854775808), 9223372036854775807, 0, 0, 0, 0), (1, (-9223372036854775808), 9223372036854775807, 0, 0, 0, 0), (0, 0, 1, 0, 0, 0, 0)]),
  (false, 10, 5, 0, [(2, 34, 0, 0, 0, 0, 0), (2, 35, 0, 0, 0, 0, 0), (2, 36, 0, 0, 0, 0, 0), (2, 37, 0, 0, 0, 0, 0), (0, (-2147483648), 2147483647, 0, 0, 0, 0)]),
  (false, 8, 2, 0, [(2, 38, 0, 0, 0, 0, 0), (0, (-2147483648), 2147483647, 0, 0, 0, 0)]),
  (false, 7, 3, 0, [(0, 10, 400, 0, 0, 0, 0), (0, 10, 400, 0, 0, 0, 0), (2, 39, 0, 0, 0, 0, 0)]),
  (false, 4, 4, 0, [(2, 40, 0, 0, 0, 0, 0), (2, 41, 0, 0, 0, 0, 0), (2, 42, 0, 0, 0, 0, 0), (0, (-2147483648), 2147483647, 0, 0, 0, 0)]),
  (false, 2, 7, 0, [(2, 43, 0, 0, 0, 0, 0), (2, 44, 0, 0, 0, 0, 0), (2, 45, 0, 0, 0, 0, 0), (2, 46, 0, 0, 0, 0, 0), (0, (-2147483648), 2147483647, 0, 0, 0, 0), (0, 0, 20, 0, 0, 0, 0), (0, (-2147483648), 2147483647, 0, 0, 0, 0)]),
  (false, 5, 5, 0, [(2, 47, 0, 0, 0, 0, 0), (2, 48, 0, 0, 0, 0, 0), (2, 49, 0, 0, 0, 0, 0), (2, 50, 0, 0, 0, 0, 0), (0, (-2147483648), 2147483647, 0, 0, 0, 0)]),
  (false, 6, 2, 0, [(2, 51, 0, 0, 0, 0, 0), (0, (-2147483648), 2147483647, 0, 0, 0, 0)]),
  (false, 0, 8, 0, [(2, 52, 0, 0, 0, 0, 0), (2, 53, 0, 0, 0, 0, 0), (2, 54, 0, 0, 0, 0, 0), (2, 55, 0, 0, 0, 0, 0), (0, (-2147483648), 2147483647, 0, 0, 0, 0), (0, (-2147483648), 2147483647, 0, 0, 0, 0), (0, (-2147483648), 2147483647, 0, 0, 0, 0), (0, 0, 1, 0, 0, 0, 0)]),
  (false, 12, 69, 0, []),
  (true, 4, 4, 0, [(3, 1, 0, 0, 0, 0, 0), (3, 1, 0, 0, 0, 0, 0), (3, 1, 0, 0, 0, 0, 0)]),
  (true, 0, 14, 0, [(0, (-2147483648), 2147483647, 0, 0, 0, 0), (0, (-2147483648), 2147483647, 0, 0, 0, 0), (0, (-2147483648), 2147483647, 0, 0, 0, 0)]),
  (true, 0, 14, 0, [(0, 0, 400, 0, 0, 0, 0), (0, 0, 400, 0, 0, 0, 0), (0, 0, 400, 0, 0, 0, 0)]),
  (true, 0, 14, 0, [(0, (-2147483648), 2147483647, 0, 0, 0, 0), (0, (-2147483648), 2147483647, 0, 0, 0, 0), (0, (-2147483648), 2147483647, 0, 0, 0, 0)]),
  (true, 0, 14, 0, [(0, (-2147483648), 2147483647, 0, 0, 0, 0), (0, (-2147483648), 2147483647, 0, 0, 0, 0), (0, (-2147483648), 2147483647, 0, 0, 0, 0)]),
  (true, 0, 14, 0, [(0, (-2147483648), 2147483647, 0, 0, 0, 0), (0, (-2147483648), 2147483647, 0, 0, 0, 0), (0, (-2147483648), 2147483647, 0, 0, 0, 0)]),
  (true, 0, 16, 0, [(0, (-2147483648), 2147483647, 0, 0, 0, 0), (0, (-2147483648), 2147483647, 0, 0, 0, 0), (0, (-2147483648), 2147483647, 0, 0, 0, 0)]),
  (true, 0, 16, 0, [(0, (-2147483648), 2147483647, 0, 0, 0, 0), (0, (-2147483648), 2147483647, 0, 0, 0, 0), (0, (-2147483648), 2147483647, 0, 0, 0, 0)]),
  (true, 0, 10, 0, [(0, (-2147483648), 2147483647, 0, 0, 0, 0)]),
  (true, 0, 10, 0, [(0, (-2147483648), 2147483647, 0, 0, 0, 0)]),
  (true, 1, 10, 0, [(1, (-9223372036854775808), 9223372036854775807, 0, 0, 0, 0)]),
  (true, 1, 10, 0, [(1, (-9223372036854775808), 9223372036854775807, 0, 0, 0, 0)]),
  (true, 0, 14, 0, [(0, (-2147483648), 2147483647, 0, 0, 0, 0)]),
  (true, 0, 14, 0, [(0, (-2147483648), 2147483647, 0, 0, 0, 0)]),
  (true, 0, 14, 0, [(0, (-2147483648), 2147483647, 0, 0, 0, 0)]),
  (true, 0, 14, 0, [(0, 0, 400, 0, 0, 0, 0)]),
  (true, 0, 14, 0, [(0, (-2147483648), 2147483647, 0, 0, 0, 0)]),
  (true, 1, 14, 0, [(1, (-9223372036854775808), 9223372036854775807, 0, 0, 0, 0)]),
  (true, 1, 14, 0, [(1, (-9223372036854775808), 9223372036854775807, 0, 0, 0, 0)]),
  (true, 0, 800, 0, [(0, (-2147483648), 2147483647, 0, 0, 0, 0)]),
  (true, 0, 14, 0, [(0, (-2147483648), 2147483647, 0, 0, 0, 0)]),
  (true, 0, 10, 0, [(0, (-2147483648), 2147483647, 0, 0, 0, 0)]),
  (true, 0, 10, 0, [(0, (-2147483648), 2147483647, 0, 0, 0, 0)]),
  (true, 0, 10, 0, [(0, (-2147483648), 2147483647, 0, 0, 0, 0)]),
  (true, 0, 10, 0, [(0, (-2147483648), 2147483647, 0, 0, 0, 0)]),
  (true, 0, 80, 0, [(0, (-2147483648), 2147483647, 0, 0, 0, 0), (0, (-2147483648), 2147483647, 0, 0, 0, 0), (0, (-2147483648), 2147483647, 0, 0, 0, 0)]),
  (true, 0, 61, 0, [(0, (-2147483648), 2147483647, 0, 0, 0, 0)]),
  (true, 0, 14, 0, [(0, (-2147483648), 2147483647, 0, 0, 0, 0)]),
  (true, 0, 14, 0, [(0, (-2147483648), 2147483647, 0, 0, 0, 0)]),
  (true, 0, 14, 0, [(0, (-2147483648), 2147483647, 0, 0, 0, 0)]),
  (true, 2, 223, 0, [(0, 0, 1, 0, 0, 0, 0)]),
  (true, 0, 20, 0, [(0, (-2147483648), 2147483647, 0, 0, 0, 0)]),
  (true, 2, 20, 0, [(0, 0, 1, 0, 0, 0, 0)]),
  (true, 0, 8, 0, [(0, (-2147483648), 2147483647, 0, 0, 0, 0)]),
  (true, 0, 12, 0, [(0, (-2147483648), 2147483647, 0, 0, 0, 0)]),
  (true, 0, 12, 0, [(0, (-2147483648), 2147483647, 0, 0, 0, 0)]),
  (true, 0, 12, 0, [(0, (-2147483648), 2147483647, 0, 0, 0, 0)]),
  (true, 0, 12, 0, [(0, (-2147483648), 2147483647, 0, 0, 0, 0)]),
  (true, 1, 16, 0, [(1, (-9223372036854775808), 9223372036854775807, 0, 0, 0, 0)]),
  (true, 0, 8, 0, [(0, (-2147483648), 2147483647, 0, 0, 0, 0), (0, (-2147483648), 2147483647, 0, 0, 0, 0), (0, (-2147483648), 2147483647, 0, 0, 0, 0)]),
  (true, 0, 8, 0, [(0, (-2147483648), 2147483647, 0, 0, 0, 0), (0, (-2147483648), 2147483647, 0, 0, 0, 0), (0, (-2147483648), 2147483647, 0, 0, 0, 0)]),
  (true, 0, 8, 0, [(0, (-2147483648), 2147483647, 0, 0, 0, 0), (0, (-2147483648), 2147483647, 0, 0, 0, 0), (0, (-2147483648), 2147483647, 0, 0, 0, 0)]),
  (true, 0, 256, 0, [(0, (-2147483648), 2147483647, 0, 0, 0, 0)]),
  (true, 0, 14, 0, []),
  (true, 0, 14, 0, []),
  (true, 0, 14, 0, []),
  (true, 0, 14, 0, []),
  (true, 0, 14, 0, []),
  (true, 0, 16, 0, []),
  (true, 0, 16, 0, []),
  (true, 0, 10, 0, []),
  (true, 0, 10, 0, []),
  (true, 0, 8, 0, []),
  (true, 0, 8, 0, []),
  (true, 0, 8, 0, []),
  (true, 3, 80, 0, []),
  (true, 1, 32, 0, []),
  (true, 1, 10, 0, []),
  (true, 1, 10, 0, []),
  (true, 2, 10, 0, []),
  (true, 0, 10, 0, []),
  (true, 0, 10, 0, []),
  (true, 0, 14, 0, []),
  (true, 0, 14, 0, []),
  (true, 0, 14, 0, []),
  (true, 2, 14, 0, []),
  (true, 0, 14, 0, []),
  (true, 1, 15, 0, []),
  (true, 1, 15, 0, []),
  (true, 0, 5614, 0, []),
  (true, 0, 8, 0, []),
  (true, 0, 8, 0, []),
  (true, 0, 8, 0, []),
  (true, 0, 4, 0, []),
  (true, 0, 401, 0, []),
  (true, 0, 14, 0, []),
  (true, 0, 14, 0, []),
  (true, 0, 8, 0, []),
  (true, 2, 223, 0, []),
  (true, 0, 20, 0, []),
  (true, 2, 20, 0, []),
  (true, 0, 8, 0, []),
  (true, 0, 12, 0, []),
  (true, 0, 12, 0, []),
  (true, 0, 12, 0, []),
  (true, 0, 12, 0, []),
  (true, 0, 496, 0, []),
  (true, 2, 4, 0, []),
  (true, 1, 1, 0, [(1, (-9223372036854775808), 9223372036854775807, 0, 0, 0, 0)])],
  [(300001, 8, 5)])
theorem y_Rr_ok : y_Rok y_Rr := y_RokB_ok (by decide +kernel)
theorem y_Rr_ro : y_roB y_Rc y_Rr = true := by decide +kernel
def y_Kr : Nat → y_Call := y_K y_Rr s_ft s_mi s_codes y_An 100000 y_hand
theorem y_Kr_ok (d : Nat) : y_CS y_Rr (y_Kr d) (g_run d) := y_K_ok y_Rr_ok s_ft_ok s_mi_ok s_codes_ok (y_hand_ok y_Rr) d
end
