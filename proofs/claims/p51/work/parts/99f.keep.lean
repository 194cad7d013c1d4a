-- keep: the one call that makes cells
set_option maxRecDepth 20000
section K1
variable {CALL : Nat → List Value → g_H → Nat → Nat → (Option Value → g_H → Prop) → Prop} {o nL : Nat} {ini : Bool} {bc bs : Nat} {cc : ByteArray} {P : g_S → Prop}
/-- a row whose instruction is of a kind -/
theorem iv_dec {pc len q kd a k : Nat} {v : Int} {ins : Instr} (hI : s_okI cc o (pc, len, q, kd, a, k, v, ins) = true) (hq : q < 44) (h25 : q ≠ 25) : decode cc pc = .ok (ins, len) := by
  obtain ⟨⟨n, hd, hlen, -⟩, -, -⟩ := s_okI_eq hI hq
  rw [hlen]
  exact hd
theorem iv_newarr (hcl : ∀ S, g_pre CALL o nL ini bc bs cc P S → P S) {pc kd b : Nat} {v : Int} {ins : Instr} (hI : s_okI cc o (pc, 2, 29, kd, 0, b, v, ins) = true) {x : Int32} {n : Nat} (h0 : ¬ x < 0) (hn : x.toNatClampNeg = n) (h6 : n ≤ 65536) {Ls : g_L} {rest : List Value} {c s : Nat} {h : g_H} (hc : c + 1 ≤ bc) (hs : s + n ≤ bs) (k : ∀ z : Nat, P (pc + 2, Ls, .ref z :: rest, c + 1, s + n, h ++ [(z, true, 0, n, fun _ => .int 0)])) : P (pc, Ls, .int x :: rest, c, s, h) := by
  have hd := iv_dec hI (by decide) (by decide)
  obtain ⟨-, hQ, -⟩ := s_okI_eq hI (by decide)
  have hi : ins = .newarray (g_at 0) := by
    clear hd
    revert hQ
    cases ins <;> intro hQ <;> first | (rename_i t; cases t <;> first | rfl | cases hQ) | cases hQ
  subst hi
  exact hcl _ ⟨_, _, hd, Or.inr (Or.inr (Or.inr (Or.inl (Or.inr (Or.inr (Or.inr (Or.inr (Or.inr (Or.inr (Or.inr (Or.inr (Or.inr (Or.inr (Or.inr (Or.inr (Or.inl ⟨0, x, n, rest, rfl, rfl, by decide, rfl, h0, hn, h6, hc, hs, k⟩))))))))))))))))⟩
theorem iv_putfield (hcl : ∀ S, g_pre CALL o nL ini bc bs cc P S → P S) {pc kd a k : Nat} {v0 : Int} {ins : Instr} (hI : s_okI cc o (pc, 3, 27, kd, a, k, v0, ins) = true) (hkd : kd = 0 ∨ kd = 1) {q ad n : Nat} {f : Nat → Value} {h : g_H} (hget : g_get h q = some (ad, false, a, n, f)) (hk : k < n) (hfin : (g_fd a k).2 = false ∨ (kd = 0 ∧ ini = true ∧ o = a)) {v : Value} {ty : FieldType} (hty : parseFieldDescriptor (g_fd a k).1 = some ty) (hn : narrow ty v = v) (hf : fits ty v = true) {Ls : g_L} {rest : List Value} {c s : Nat} (kk : P (pc + 3, Ls, rest, c, s, h.set q (ad, false, a, n, g_up f k v))) : P (pc, Ls, v :: .ref ad :: rest, c, s, h) := by
  have hd := iv_dec hI (by decide) (by decide)
  obtain ⟨-, hQ, hlk⟩ := s_okI_eq hI (by decide)
  have hi : ∃ i, ins = .putfield i := by
    clear hd hlk
    revert hQ
    cases ins <;> intro hQ <;> first | exact ⟨_, rfl⟩ | cases hQ
  obtain ⟨i, rfl⟩ := hi
  obtain ⟨ps, hl⟩ := hlk (by decide) i rfl
  exact hcl _ ⟨_, _, hd, Or.inr (Or.inr (Or.inr (Or.inl (Or.inr (Or.inl ⟨i, kd, a, k, v0, ps, q, ad, n, f, v, ty, rest, rfl, rfl, hkd, hl, rfl, hget, hk, hfin, hty, hn, hf, kk⟩)))))⟩
theorem iv_getfield (hcl : ∀ S, g_pre CALL o nL ini bc bs cc P S → P S) {pc kd a k : Nat} {v0 : Int} {ins : Instr} (hI : s_okI cc o (pc, 3, 26, kd, a, k, v0, ins) = true) (hkd : kd = 0 ∨ kd = 1) {q ad n : Nat} {f : Nat → Value} {h : g_H} (hget : g_get h q = some (ad, false, a, n, f)) (hk : k < n) {Ls : g_L} {rest : List Value} {c s : Nat} (kk : P (pc + 3, Ls, f k :: rest, c, s, h)) : P (pc, Ls, .ref ad :: rest, c, s, h) := by
  have hd := iv_dec hI (by decide) (by decide)
  obtain ⟨-, hQ, hlk⟩ := s_okI_eq hI (by decide)
  have hi : ∃ i, ins = .getfield i := by
    clear hd hlk
    revert hQ
    cases ins <;> intro hQ <;> first | exact ⟨_, rfl⟩ | cases hQ
  obtain ⟨i, rfl⟩ := hi
  obtain ⟨ps, hl⟩ := hlk (by decide) i rfl
  exact hcl _ ⟨_, _, hd, Or.inr (Or.inr (Or.inr (Or.inl (Or.inl ⟨i, kd, a, k, v0, ps, q, ad, n, f, rest, rfl, rfl, hkd, hl, rfl, hget, hk, kk⟩))))⟩
theorem iv_new (hcl : ∀ S, g_pre CALL o nL ini bc bs cc P S → P S) {pc q9 ci N : Nat} {v0 : Int} {ins : Instr} (hI : s_okI cc o (pc, 3, 31, 9, ci, N, v0, ins) = true) {Ls : g_L} {st : List Value} {c s : Nat} {h : g_H} (hc : c + 1 ≤ bc) (hs : s + N ≤ bs) (k : ∀ z : Nat, P (pc + 3, Ls, .ref z :: st, c + 1, s + N, h ++ [(z, false, ci, N, fun j => defaultValue ((parseFieldDescriptor (g_fd ci j).1).getD .int))])) : P (pc, Ls, st, c, s, h) := by
  have hd := iv_dec hI (by decide) (by decide)
  obtain ⟨-, hQ, hlk⟩ := s_okI_eq hI (by decide)
  have hi : ∃ i, ins = .new i := by
    clear hd hlk
    revert hQ
    cases ins <;> intro hQ <;> first | exact ⟨_, rfl⟩ | cases hQ
  obtain ⟨i, rfl⟩ := hi
  obtain ⟨ps, hl⟩ := hlk (by decide) i rfl
  exact hcl _ ⟨_, _, hd, Or.inr (Or.inr (Or.inr (Or.inl (Or.inr (Or.inr (Or.inr (Or.inr (Or.inr (Or.inr (Or.inr (Or.inr (Or.inr (Or.inr (Or.inr (Or.inr (Or.inr (Or.inr (⟨i, ci, N, v0, ps, rfl, rfl, hl, hc, hs, k⟩))))))))))))))))))⟩
theorem iv_dup (hcl : ∀ S, g_pre CALL o nL ini bc bs cc P S → P S) {pc kd a b : Nat} {v0 : Int} {ins : Instr} (hI : s_okI cc o (pc, 1, 5, kd, a, b, v0, ins) = true) {Ls : g_L} {x : Value} {rest : List Value} {w : g_W} (hx : x.category = 1) (k : P (pc + 1, Ls, x :: x :: rest, w)) : P (pc, Ls, x :: rest, w) := by
  have hd := iv_dec hI (by decide) (by decide)
  obtain ⟨-, hQ, -⟩ := s_okI_eq hI (by decide)
  have hi : ins = .dup := of_decide_eq_true hQ
  subst hi
  exact hcl _ ⟨_, _, hd, Or.inl (Or.inr (Or.inr (Or.inr (Or.inr (Or.inr (Or.inl ⟨_, _, rfl, rfl, rfl, hx, k⟩))))))⟩
theorem iv_special (hcl : ∀ S, g_pre CALL o nL ini bc bs cc P S → P S) {pc kd j n : Nat} {v0 : Int} {ins : Instr} (hI : s_okI cc o (pc, 3, 36, kd, j, n, v0, ins) = true) (hkd : kd = 6 ∨ kd = 7) {as rest : List Value} (hl : as.length = n) (hs : g_sum rest ≤ 8) {Ls : g_L} {c s mc ms ad : Nat} {h : g_H} (h1 : c + mc ≤ bc) (h2 : s + ms ≤ bs) (hr : CALL j (.ref ad :: as) h mc ms (fun r h' => P (pc + 3, Ls, r.toList ++ rest, c + mc, s + ms, h'))) : P (pc, Ls, as.reverse ++ .ref ad :: rest, c, s, h) := by
  have hd := iv_dec hI (by decide) (by decide)
  obtain ⟨-, hQ, hlk⟩ := s_okI_eq hI (by decide)
  have hi : ∃ i, ins = .invokespecial i := by
    clear hd hlk
    revert hQ
    cases ins <;> intro hQ <;> first | exact ⟨_, rfl⟩ | cases hQ
  obtain ⟨i, rfl⟩ := hi
  obtain ⟨ps, hl9⟩ := hlk (by decide) i rfl
  exact hcl _ ⟨_, _, hd, Or.inr (Or.inr (Or.inr (Or.inr (Or.inr (Or.inr (Or.inl ⟨i, kd, j, n, v0, ps, as, ad, rest, mc, ms, rfl, rfl, hkd, hl9, rfl, hl, hs, h1, h2, hr⟩))))))⟩
theorem iv_objinit (hcl : ∀ S, g_pre CALL o nL ini bc bs cc P S → P S) {pc a b : Nat} {v0 : Int} {ins : Instr} (hI : s_okI cc o (pc, 3, 37, 8, a, b, v0, ins) = true) {Ls : g_L} {ad : Nat} {rest : List Value} (hs : g_sum rest ≤ 8) {w : g_W} (k : P (pc + 3, Ls, rest, w)) : P (pc, Ls, .ref ad :: rest, w) := by
  have hd := iv_dec hI (by decide) (by decide)
  obtain ⟨-, hQ, hlk⟩ := s_okI_eq hI (by decide)
  have hi : ∃ i, ins = .invokespecial i := by
    clear hd hlk
    revert hQ
    cases ins <;> intro hQ <;> first | exact ⟨_, rfl⟩ | cases hQ
  obtain ⟨i, rfl⟩ := hi
  obtain ⟨ps, hl9⟩ := hlk (by decide) i rfl
  exact hcl _ ⟨_, _, hd, Or.inr (Or.inr (Or.inr (Or.inr (Or.inr (Or.inr (Or.inr ⟨i, _, _, _, ps, ad, rest, rfl, rfl, hl9, rfl, hs, k⟩))))))⟩
theorem iv_virt (hcl : ∀ S, g_pre CALL o nL ini bc bs cc P S → P S) {pc j n : Nat} {v0 : Int} {ins : Instr} (hI : s_okI cc o (pc, 3, 34, 2, j, n, v0, ins) = true) {q ad nf : Nat} {f : Nat → Value} {h : g_H} (hget : g_get h q = some (ad, false, (g_me j).2.1, nf, f)) {as rest : List Value} (hl : as.length = n) (hs : g_sum rest ≤ 8) {Ls : g_L} {c s mc ms : Nat} (h1 : c + mc ≤ bc) (h2 : s + ms ≤ bs) (hr : CALL j (.ref ad :: as) h mc ms (fun r h' => P (pc + 3, Ls, r.toList ++ rest, c + mc, s + ms, h'))) : P (pc, Ls, as.reverse ++ .ref ad :: rest, c, s, h) := by
  have hd := iv_dec hI (by decide) (by decide)
  obtain ⟨-, hQ, hlk⟩ := s_okI_eq hI (by decide)
  have hi : ∃ i, ins = .invokevirtual i := by
    clear hd hlk
    revert hQ
    cases ins <;> intro hQ <;> first | exact ⟨_, rfl⟩ | cases hQ
  obtain ⟨i, rfl⟩ := hi
  obtain ⟨ps, hl9⟩ := hlk (by decide) i rfl
  exact hcl _ ⟨_, _, hd, Or.inr (Or.inr (Or.inr (Or.inr (Or.inl ⟨i, 2, j, n, v0, ps, as, ad, rest, q, nf, f, mc, ms, rfl, rfl, Or.inl rfl, hl9, rfl, hl, hget, hs, h1, h2, hr⟩))))⟩
theorem iv_aastore (hcl : ∀ S, g_pre CALL o nL ini bc bs cc P S → P S) {pc kd b : Nat} {v0 : Int} {ins : Instr} (hI : s_okI cc o (pc, 1, 33, kd, 3, b, v0, ins) = true) {q ad n : Nat} {f : Nat → Value} {h : g_H} (hget : g_get h q = some (ad, true, 4, n, f)) {qk v nk : Nat} {fk : Nat → Value} (hgk : g_get h qk = some (v, false, 1, nk, fk)) {j : Int32} (hj : vp_in j n) {Ls : g_L} {rest : List Value} {c s : Nat} (k : P (pc + 1, Ls, rest, c, s, h.set q (ad, true, 4, n, g_up f j.toNatClampNeg (.ref v)))) : P (pc, Ls, .ref v :: .int j :: .ref ad :: rest, c, s, h) := by
  have hd := iv_dec hI (by decide) (by decide)
  obtain ⟨-, hQ, -⟩ := s_okI_eq hI (by decide)
  have hQ1 : (Nat.beq (s_asn ins) 3 && Nat.blt 3 4) = true := hQ
  rw [Bool.and_eq_true, Nat.beq_eq] at hQ1
  have hi : ins = .aastore := by
    rcases s_as_i hQ1.1 (by decide) with ⟨h, -⟩ | ⟨h, -⟩ | ⟨h, -⟩ | ⟨-, h⟩
    · cases h
    · cases h
    · cases h
    · exact h
  subst hi
  exact hcl _ ⟨_, _, hd, Or.inr (Or.inr (Or.inr (Or.inl (Or.inr (Or.inr (Or.inr (Or.inr (Or.inr (Or.inr (Or.inr (Or.inr (Or.inr (Or.inr (Or.inl ⟨q, ad, n, f, j, v, qk, nk, fk, rest, rfl, rfl, rfl, hget, hgk, hj, k⟩))))))))))))))⟩
end K1
-- the new cells
theorem iv_set {h : g_H} {c c' z : Nat × g_HC} {l : g_H} : (h ++ c :: l ++ [z]).set h.length c' = h ++ c' :: (l ++ [z]) := by
  induction h with
  | nil => rfl
  | cons x xs ih =>
    show x :: (xs ++ c :: l ++ [z]).set xs.length c' = x :: (xs ++ c' :: (l ++ [z]))
    rw [ih]
theorem iv_at {h : g_H} {c : Nat × g_HC} {l : g_H} : g_get (h ++ c :: l) h.length = some c := by
  show (h ++ c :: l)[h.length]? = some c
  rw [List.getElem?_append_right (Nat.le_refl _), Nat.sub_self]
  rfl
/-- an array that a Build's constructor makes -/
def iv_ar (z n : Nat) : Nat × g_HC := (z, true, 0, n, fun _ => .int 0)
theorem iv_blk {CALL : Nat → List Value → g_H → Nat → Nat → (Option Value → g_H → Prop) → Prop} {bc bs : Nat} {P : g_S → Prop} (hcl : ∀ S, g_pre CALL 1 1 true bc bs (g_by 1) P S → P S) {pc n k kd1 b1 kd2 b2 kd3 b3 : Nat} {v1 v3 v4 : Int} {i3 i4 : Instr}
    (r1 : s_okI (g_by 1) 1 (pc, 1, 1, kd1, 0, b1, v1, .aload_n 0) = true) (r2 : s_okI (g_by 1) 1 (pc + 1, 2, 0, kd2, 0, b2, (n : Int), .bipush (n : Int)) = true) (r3 : s_okI (g_by 1) 1 (pc + 3, 2, 29, kd3, 0, b3, v3, i3) = true) (r4 : s_okI (g_by 1) 1 (pc + 5, 3, 27, 0, 1, k, v4, i4) = true) (hn16 : n ≤ 16) (hk11 : k < 11) {a : Nat} {h l : g_H} {f : Nat → Value} {c s : Nat} (hc : c + 1 ≤ bc) (hs : s + n ≤ bs) (hk : ∃ fin, (s_ft.getD 1 []).getD k (9, true) = (3, fin))
    (next : ∀ z : Nat, P (pc + 8, [(0, .ref a)], [], c + 1, s + n, h ++ (a, false, 1, 11, g_up f k (.ref z)) :: (l ++ [iv_ar z n]))) : P (pc, [(0, .ref a)], [], c, s, h ++ (a, false, 1, 11, f) :: l) := by
  refine hcl _ ⟨_, _, iv_dec r1 (by decide) (by decide), Or.inl (Or.inr (Or.inl ⟨0, _, .ref a, rfl, List.mem_cons_self, rfl, ?_⟩))⟩
  refine hcl _ ⟨_, _, iv_dec r2 (by decide) (by decide), Or.inl (Or.inl ⟨_, rfl, ?_⟩)⟩
  have hb : ((Int8.ofInt (n : Int)).toInt32).toInt = (n : Int) := by
    rw [Int8.toInt_toInt32]
    exact Int8.toInt_ofInt_of_le (by omega) (by omega)
  refine iv_newarr hcl r3 (n := n) (fun hlt => ?_) ?_ (by omega) hc hs (fun z => ?_)
  · have := Int32.lt_iff_toInt_lt.mp hlt
    rw [hb] at this
    have h0 : (0 : Int32).toInt = 0 := rfl
    omega
  · rw [← Int32.toNat_toInt, hb]
    rfl
  · obtain ⟨fin, hk⟩ := hk
    obtain ⟨-, T, hT, hT2⟩ := s_ft_ok 1 k 3 fin hk (by decide)
    have hT2 : (∃ n, T = .object n) ∨ ∃ u, T = .array u := hT2
    refine iv_putfield hcl r4 (Or.inl rfl) (q := h.length) (n := 11) (f := f) ?_ hk11 (Or.inr ⟨rfl, rfl, rfl⟩) hT ?_ ?_ ?_
    · have e2 : h ++ (a, false, 1, 11, f) :: l ++ [(z, true, 0, n, fun _ => Value.int 0)] = h ++ (a, false, 1, 11, f) :: (l ++ [(z, true, 0, n, fun _ => Value.int 0)]) := by simp
      rw [e2]
      exact iv_at
    · rcases hT2 with ⟨u, rfl⟩ | ⟨u, rfl⟩ <;> rfl
    · rcases hT2 with ⟨u, rfl⟩ | ⟨u, rfl⟩ <;> rfl
    · rw [iv_set]
      exact next z
/-- what a Build's constructor makes -/
def iv_bl (h h' : g_H) (a : Nat) (f : Nat → Value) : Prop := ∃ z0 z1 z2 z3 z4 z5 z6 z7 z8 : Nat, h' = h ++ (a, false, 1, 11, g_up (g_up (g_up (g_up (g_up (g_up (g_up (g_up (g_up (f) 0 (.ref z0)) 1 (.ref z1)) 2 (.ref z2)) 3 (.ref z3)) 4 (.ref z4)) 5 (.ref z5)) 6 (.ref z6)) 7 (.ref z7)) 8 (.ref z8)) :: [iv_ar z0 14, iv_ar z1 14, iv_ar z2 14, iv_ar z3 14, iv_ar z4 14, iv_ar z5 16, iv_ar z6 16, iv_ar z7 10, iv_ar z8 10]
theorem iv_init {d a : Nat} {h : g_H} {f : Nat → Value} : g_run (d + 1) 1 [.ref a] (h ++ [(a, false, 1, 11, f)]) 9 122 (fun r h' => r = none ∧ iv_bl h h' a f) := by
  obtain ⟨q1, q2, q3, q4, q5⟩ := s_mi_ok 1 (1, 0, true, 9, 122, 1) (by decide +kernel)
  obtain ⟨c1, c2⟩ := s_codes_ok 1 (1, 0, true, 9, 122, 1) (by decide +kernel)
  rw [show s_codes.getD 1 [] = s_c_1 from rfl] at c1 c2
  have q3 : g_rt 1 = none := q3
  refine ⟨q1, by rw [q2]; exact (show 1 ≤ 1 by decide), ?_⟩
  rw [q5, q2, q4]
  intro P hend hcl
  refine t_at_ok hcl c2 (n := 1) (pc := 0) (pc' := 1) (L' := [(0, .ref a)]) (st' := [.ref a]) rfl ?_
  refine iv_objinit hcl (c2 _ (iv_in (c := []) (pc := 1) rfl)) (by decide) ?_
  refine iv_blk (pc := 4) (n := 14) (k := 0) hcl (c2 _ (iv_in (c := []) (pc := 4) rfl)) (c2 _ (iv_in (c := []) (pc := 5) rfl)) (c2 _ (iv_in (c := []) (pc := 7) rfl)) (c2 _ (iv_in (c := []) (pc := 9) rfl)) (by decide) (by decide) (by decide) (by decide) ⟨_, rfl⟩ (fun z0 => ?_)
  refine iv_blk (pc := 12) (n := 14) (k := 1) hcl (c2 _ (iv_in (c := []) (pc := 12) rfl)) (c2 _ (iv_in (c := []) (pc := 13) rfl)) (c2 _ (iv_in (c := []) (pc := 15) rfl)) (c2 _ (iv_in (c := []) (pc := 17) rfl)) (by decide) (by decide) (by decide) (by decide) ⟨_, rfl⟩ (fun z1 => ?_)
  refine iv_blk (pc := 20) (n := 14) (k := 2) hcl (c2 _ (iv_in (c := []) (pc := 20) rfl)) (c2 _ (iv_in (c := []) (pc := 21) rfl)) (c2 _ (iv_in (c := []) (pc := 23) rfl)) (c2 _ (iv_in (c := []) (pc := 25) rfl)) (by decide) (by decide) (by decide) (by decide) ⟨_, rfl⟩ (fun z2 => ?_)
  refine iv_blk (pc := 28) (n := 14) (k := 3) hcl (c2 _ (iv_in (c := []) (pc := 28) rfl)) (c2 _ (iv_in (c := []) (pc := 29) rfl)) (c2 _ (iv_in (c := []) (pc := 31) rfl)) (c2 _ (iv_in (c := []) (pc := 33) rfl)) (by decide) (by decide) (by decide) (by decide) ⟨_, rfl⟩ (fun z3 => ?_)
  refine iv_blk (pc := 36) (n := 14) (k := 4) hcl (c2 _ (iv_in (c := []) (pc := 36) rfl)) (c2 _ (iv_in (c := []) (pc := 37) rfl)) (c2 _ (iv_in (c := []) (pc := 39) rfl)) (c2 _ (iv_in (c := []) (pc := 41) rfl)) (by decide) (by decide) (by decide) (by decide) ⟨_, rfl⟩ (fun z4 => ?_)
  refine iv_blk (pc := 44) (n := 16) (k := 5) hcl (c2 _ (iv_in (c := []) (pc := 44) rfl)) (c2 _ (iv_in (c := []) (pc := 45) rfl)) (c2 _ (iv_in (c := []) (pc := 47) rfl)) (c2 _ (iv_in (c := []) (pc := 49) rfl)) (by decide) (by decide) (by decide) (by decide) ⟨_, rfl⟩ (fun z5 => ?_)
  refine iv_blk (pc := 52) (n := 16) (k := 6) hcl (c2 _ (iv_in (c := []) (pc := 52) rfl)) (c2 _ (iv_in (c := []) (pc := 53) rfl)) (c2 _ (iv_in (c := []) (pc := 55) rfl)) (c2 _ (iv_in (c := []) (pc := 57) rfl)) (by decide) (by decide) (by decide) (by decide) ⟨_, rfl⟩ (fun z6 => ?_)
  refine iv_blk (pc := 60) (n := 10) (k := 7) hcl (c2 _ (iv_in (c := []) (pc := 60) rfl)) (c2 _ (iv_in (c := []) (pc := 61) rfl)) (c2 _ (iv_in (c := []) (pc := 63) rfl)) (c2 _ (iv_in (c := []) (pc := 65) rfl)) (by decide) (by decide) (by decide) (by decide) ⟨_, rfl⟩ (fun z7 => ?_)
  refine iv_blk (pc := 68) (n := 10) (k := 8) hcl (c2 _ (iv_in (c := []) (pc := 68) rfl)) (c2 _ (iv_in (c := []) (pc := 69) rfl)) (c2 _ (iv_in (c := []) (pc := 71) rfl)) (c2 _ (iv_in (c := []) (pc := 73) rfl)) (by decide) (by decide) (by decide) (by decide) ⟨_, rfl⟩ (fun z8 => ?_)
  refine hend _ ⟨by show 0 + 1 + 1 + 1 + 1 + 1 + 1 + 1 + 1 + 1 ≤ 9; decide, by show 0 + 14 + 14 + 14 + 14 + 14 + 16 + 16 + 10 + 10 ≤ 122; decide, Or.inr (Or.inr (Or.inr ⟨?_, q3, rfl, rfl, z0, z1, z2, z3, z4, z5, z6, z7, z8, rfl⟩))⟩
  exact iv_dec (c2 _ (iv_in (c := []) (pc := 76) rfl)) (by decide) (by decide)
