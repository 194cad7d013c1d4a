-- shop: both answer the same
set_option maxRecDepth 20000
def iv_shop (a b : Int) : Int := if 10 ≤ a ∧ b ≤ 400 ∧ a ≤ b ∧ b - a ≤ 200 then 1 else 0
theorem ms_shopF {A : Nat → Nat} {h0 : g_H} {d : Nat} {M : xa_M} {post : Option xa_V → xa_M → Prop} {l1 u1 l2 u2 : Int} {a b : Int} (hI : xm_Inv M) (k : ∀ (M1 : xa_M), xm_Inv M1 → post (some (0, 0, 0, 1, iv_shop a b)) M1) : xa_C xm_I A h0 (d + 2) 256 [(2, 60, 0, 0, 0), (0, 0, l1, u1, a), (0, 0, l2, u2, b)] M post := by
  refine xa_C_arg [(2, 60, 0, 0, 0), (0, 0, (-2147483648), 2147483647, a), (0, 0, (-2147483648), 2147483647, b)] (xa_svR (xa_svI (fun _ _ _ _ => by omega) (xa_svI (fun _ _ _ _ => by omega) xa_sv0))) (xa_C_wk ?_)
  refine xa_meth (Q0 := (3, 2, false, 0, 0, 12)) (by decide +kernel) ⟨rfl, rfl⟩ (full := s_c_256) rfl rfl ?_
  intro hM hv Q hgo
  have no : ¬ (10 ≤ a ∧ b ≤ 400 ∧ a ≤ b ∧ b - a ≤ 200) → iv_shop a b = 0 := fun h => if_neg h
  have yes : (10 ≤ a ∧ b ≤ 400 ∧ a ≤ b ∧ b - a ≤ 200) → iv_shop a b = 1 := fun h => if_pos h
  refine hgo.1 30 [] 0 _ _ _ ?_
  show xa_C xm_I A h0 _ 214 [(0, 0, (-2147483648), 2147483647, a), (0, 0, 10, 10, 10), (0, 0, 400, 400, 400)] (xa_up M 60 21 0) _
  refine ct_in ?_ ?_
  · intro (i1 : 10 ≤ a ∧ a ≤ 400)
    show xa_C xm_I A h0 _ 214 [(0, 0, (-2147483648), 2147483647, b), (0, 0, (-2147483648), 2147483647, a), (0, 0, 400, 400, 400)] (xa_up M 60 21 0) _
    refine ct_in ?_ ?_
    · intro (i2 : a ≤ b ∧ b ≤ 400)
      have ew : xa_w32 (b - a) = b - a := xa_w32_id (by omega) (by omega)
      refine And.intro ?_ ?_
      · intro (c3 : (xa_w32 (b - a)) ≤ 200)
        rw [ew] at c3
        refine And.intro (show 10 ≤ a ∧ a ≤ 400 by omega) ?_
        refine And.intro (show 10 ≤ b ∧ b ≤ 400 by omega) ?_
        show xa_wk post (some (0, 0, 1, 1, 1)) (xa_up (xa_up (xa_up M 60 21 0) 60 15 a) 60 16 b)
        refine xa_wkI _ (yes (by omega)).symm (fun _ _ => by omega) (k _ (xm_Inv_b (M := M) (fun j => by simp [xa_up]) (fun j => by simp [xa_up]) hI (fun w w0 w1 => ?_) (fun m m0 m1 => ?_) (fun p p0 p1 => ?_) ?_))
        · have h := hI.1 w w0 (by simp [xa_up] at w1; omega)
          simp [xa_up]
          exact h
        · have h := hI.2.1 m m0 (by simp [xa_up] at m1; omega)
          simp [xa_up]
          exact h
        · have h := hI.2.2.1 p p0 (by simp [xa_up] at p1; omega)
          simp [xa_up]
          exact h
        · simp [xa_up]
          omega
      · intro (c3 : 200 < (xa_w32 (b - a)))
        rw [ew] at c3
        show xa_wk post (some (0, 0, 0, 0, 0)) (xa_up M 60 21 0)
        exact xa_wkI _ (no (by omega)).symm (fun _ _ => by omega) (k _ (xm_Inv_cor (xm_cor_f (by omega) xm_cor_r) hI))
    · intro (i2 : ¬ (a ≤ b ∧ b ≤ 400))
      show xa_wk post (some (0, 0, 0, 0, 0)) (xa_up M 60 21 0)
      exact xa_wkI _ (no (by omega)).symm (fun _ _ => by omega) (k _ (xm_Inv_cor (xm_cor_f (by omega) xm_cor_r) hI))
  · intro (i1 : ¬ (10 ≤ a ∧ a ≤ 400))
    show xa_wk post (some (0, 0, 0, 0, 0)) (xa_up M 60 21 0)
    exact xa_wkI _ (no (by omega)).symm (fun _ _ => by omega) (k _ (xm_Inv_cor (xm_cor_f (by omega) xm_cor_r) hI))
theorem ct_isSpan {I : xa_I} {A : Nat → Nat} {h0 : g_H} {d : Nat} {M : xa_M} {post : Option xa_V → xa_M → Prop} {l1 u1 l2 u2 : Int} {a b : Int} (k : ∀ r : Int, (r = 0 ∨ r = 1) → (r = 1 ↔ 10 ≤ a ∧ b ≤ 400 ∧ a ≤ b) → post (some (0, 0, 0, 1, r)) M) : xa_C I A h0 (d + 1) 13 [(0, 0, l1, u1, a), (0, 0, l2, u2, b)] M post := by
  refine xa_C_arg [(0, 0, (-2147483648), 2147483647, a), (0, 0, (-2147483648), 2147483647, b)] (xa_svI (fun _ _ _ _ => by omega) (xa_svI (fun _ _ _ _ => by omega) xa_sv0)) (xa_C_wk ?_)
  refine xa_meth (Q0 := (2, 2, false, 0, 0, 11)) (by decide +kernel) ⟨rfl, rfl⟩ (full := s_c_13) rfl rfl ?_
  intro hM hv Q hgo
  refine hgo.1 30 [] 0 _ _ _ ?_
  refine And.intro ?_ ?_
  · intro (c1 : a < 10)
    show xa_wk post (some (0, 0, 0, 0, 0)) M
    exact xa_wkI 0 rfl (fun _ _ => by omega) (k 0 (by omega) (by omega))
  · intro (c1 : 10 ≤ a)
    refine And.intro ?_ ?_
    · intro (c2 : 400 < b)
      show xa_wk post (some (0, 0, 0, 0, 0)) M
      exact xa_wkI 0 rfl (fun _ _ => by omega) (k 0 (by omega) (by omega))
    · intro (c2 : b ≤ 400)
      refine And.intro ?_ ?_
      · intro (c3 : b < a)
        show xa_wk post (some (0, 0, 0, 0, 0)) M
        exact xa_wkI 0 rfl (fun _ _ => by omega) (k 0 (by omega) (by omega))
      · intro (c3 : a ≤ b)
        show xa_wk post (some (0, 0, 1, 1, 1)) M
        exact xa_wkI 1 rfl (fun _ _ => by omega) (k 1 (by omega) (by omega))
-- a method of the class, by hand
theorem xn_H {A : Nat → Nat} {M : xa_M} {h : g_H} : xa_H (fun _ => none) A M h h := ⟨rfl, (fun _ _ _ e => by cases e), fun _ _ => rfl⟩
theorem xn_eq {A : Nat → Nat} {M : xa_M} {h h' : g_H} (e : xa_H (fun _ => none) A M h h') : h' = h := List.ext_getElem? (fun q => e.2.2 q rfl)
theorem iv_ireturn {cc : ByteArray} {o pc len kd a k : Nat} {v : Int} {ins : Instr} (hI : s_okI cc o (pc, len, 40, kd, a, k, v, ins) = true) : decode cc pc = .ok (.ireturn, 1) := by
  obtain ⟨⟨n, hd, hlen, hne⟩, hQ, -⟩ := s_okI_eq hI (by decide)
  have hi : ins = .ireturn := of_decide_eq_true hQ
  subst hi
  have := hne (by decide)
  rw [this] at hd
  exact hd
theorem iv_in {full c t : List s_I} {pc : Nat} {r : s_I} (e : s_jump full pc = some (r :: t)) : r ∈ full := s_jump_in e r List.mem_cons_self
theorem iv_back {A : Nat → Nat} {W W' : y_W} {β' : Nat → Int} {h h' : g_H} {M : xa_M} (hW : iv_W A W) (hM : xa_H xm_I A M h h) (hInv : xm_Inv M) (hWW : W <+: W') (hH' : y_H (iv_ct h) y_Rc W' β' h') : iv_inv A h' := by
  have hW' : iv_W A W' := fun q r hr => by
    have h1 := hW q r hr
    obtain ⟨t, rfl⟩ := hWW
    rw [List.getElem?_append_left (List.getElem?_eq_some_iff.mp h1).1]
    exact h1
  exact ⟨⟨W', β', y_H_ct hH', hW'⟩, M, iv_mod_k (W := W) (β := β') hM hW' hH', hInv⟩
theorem iv_gL {W : y_W} {β : Nat → Int} {Ls : g_L} {i : Nat} {x : Value} {v : y_V} (hi : i < 200000) (hm : (i, x) ∈ Ls) (hg : y_g W β v x) : ∃ x, y_at β Ls i x ∧ y_g W β v x := ⟨x, ⟨fun _ => hm, fun h => by omega⟩, hg⟩
/-- a static call -/
theorem iv_stat {CALL : Nat → List Value → g_H → Nat → Nat → (Option Value → g_H → Prop) → Prop} {o nL : Nat} {ini : Bool} {bc bs : Nat} {cc : ByteArray} {P : g_S → Prop} (hcl : ∀ S, g_pre CALL o nL ini bc bs cc P S → P S) {pc j n : Nat} {v0 : Int} {ins : Instr} (hI : s_okI cc o (pc, 3, 35, 4, j, n, v0, ins) = true) {as rest : List Value} (hl : as.length = n) (hs : g_sum rest ≤ 8) {Ls : g_L} {cells slots : Nat} {h : g_H} (h1 : cells ≤ bc) (h2 : slots ≤ bs) (hr : CALL j as h 0 0 (fun r h' => P (pc + 3, Ls, r.toList ++ rest, cells, slots, h'))) : P (pc, Ls, as.reverse ++ rest, cells, slots, h) := by
  obtain ⟨⟨n8, hd, hlen9, hne⟩, hQ, hlk⟩ := s_okI_eq hI (by decide)
  have hQ' : ∃ i, ins = .invokestatic i := by
    clear hd hne hlk
    revert hQ
    cases ins <;> intro hQ <;> first | exact ⟨_, rfl⟩ | cases hQ
  obtain ⟨i9, rfl⟩ := hQ'
  obtain ⟨ps, hl9⟩ := hlk (by decide) i9 rfl
  have h3 : n8 = 3 := hlen9.symm
  rw [h3] at hd
  exact hcl _ ⟨_, _, hd, Or.inr (Or.inr (Or.inr (Or.inr (Or.inr (Or.inl ⟨i9, 4, _, _, v0, ps, as, rest, 0, 0, rfl, rfl, Or.inl rfl, hl9, rfl, hl, hs, h1, h2, hr⟩)))))⟩
/-- a branch -/
theorem iv_if {CALL : Nat → List Value → g_H → Nat → Nat → (Option Value → g_H → Prop) → Prop} {o nL : Nat} {ini : Bool} {bc bs : Nat} {cc : ByteArray} {P : g_S → Prop} (hcl : ∀ S, g_pre CALL o nL ini bc bs cc P S → P S) {pc kd a k : Nat} {v0 : Int} {ins : Instr} (hI : s_okI cc o (pc, 3, 21, kd, a, k, v0, ins) = true) {x : Int32} {rest : List Value} {Ls : g_L} {w : g_W} (h1 : xa_cd k x.toInt 0 → P (a, Ls, rest, w)) (h2 : xa_cd (y_neg k) x.toInt 0 → P (pc + 3, Ls, rest, w)) : P (pc, Ls, .int x :: rest, w) := by
  obtain ⟨⟨n8, hd, hlen9, hne⟩, hQ, hlk⟩ := s_okI_eq hI (by decide)
  have hQ' : ∃ cd off, ins = .ifCond cd off ∧ (pc : Int) + off = (a : Int) ∧ s_cdn cd = k := by
    clear hd hne hlk
    revert hQ
    cases ins <;> intro hQ <;> first | exact ⟨_, _, rfl, of_decide_eq_true ((Bool.and_eq_true _ _).mp hQ).1, Nat.beq_eq.mp ((Bool.and_eq_true _ _).mp hQ).2⟩ | cases hQ
  obtain ⟨cd, off, rfl, hoff, rfl⟩ := hQ'
  have h3 : n8 = 3 := hlen9.symm
  rw [h3] at hd
  refine hcl _ ⟨_, _, hd, Or.inr (Or.inr (Or.inl (Or.inr (Or.inl ⟨_, _, _, _, _, rfl, rfl, hoff, rfl, ?_⟩))))⟩
  rw [h_c1]
  by_cases hc : h_ci x.toInt 0 cd = true
  · rw [if_pos hc]
    exact h1 (xa_cd_ok hc)
  · rw [if_neg hc]
    exact h2 (xa_cd_no hc)
theorem iv_icmp {CALL : Nat → List Value → g_H → Nat → Nat → (Option Value → g_H → Prop) → Prop} {o nL : Nat} {ini : Bool} {bc bs : Nat} {cc : ByteArray} {P : g_S → Prop} (hcl : ∀ S, g_pre CALL o nL ini bc bs cc P S → P S) {pc kd a k : Nat} {v0 : Int} {ins : Instr} (hI : s_okI cc o (pc, 3, 22, kd, a, k, v0, ins) = true) {x y : Int32} {rest : List Value} {Ls : g_L} {w : g_W} (h1 : xa_cd k x.toInt y.toInt → P (a, Ls, rest, w)) (h2 : xa_cd (y_neg k) x.toInt y.toInt → P (pc + 3, Ls, rest, w)) : P (pc, Ls, .int y :: .int x :: rest, w) := by
  obtain ⟨⟨n8, hd, hlen9, hne⟩, hQ, hlk⟩ := s_okI_eq hI (by decide)
  have hQ' : ∃ cd off, ins = .if_icmp cd off ∧ (pc : Int) + off = (a : Int) ∧ s_cdn cd = k := by
    clear hd hne hlk
    revert hQ
    cases ins <;> intro hQ <;> first | exact ⟨_, _, rfl, of_decide_eq_true ((Bool.and_eq_true _ _).mp hQ).1, Nat.beq_eq.mp ((Bool.and_eq_true _ _).mp hQ).2⟩ | cases hQ
  obtain ⟨cd, off, rfl, hoff, rfl⟩ := hQ'
  have h3 : n8 = 3 := hlen9.symm
  rw [h3] at hd
  refine hcl _ ⟨_, _, hd, Or.inr (Or.inr (Or.inl (Or.inr (Or.inr (Or.inl ⟨_, _, _, _, _, _, rfl, rfl, hoff, rfl, ?_⟩)))))⟩
  rw [h_c2]
  by_cases hc : h_ci x.toInt y.toInt cd = true
  · rw [if_pos hc]
    exact h1 (xa_cd_ok hc)
  · rw [if_neg hc]
    exact h2 (xa_cd_no hc)
/-- the end of shop in the layer of kinds and bounds -/
def iv_s19 : Bool := match s_jump s_c_121 19 with
  | some c => (match y_run y_Rc s_ft s_mi (y_Kc 59) [] s_c_121 3 1000 [] (c, [(0, (2, 0, 0, 0, 0, 0, 0)), (1, (0, 10, 400, 0, 0, 0, 0)), (2, (0, 10, 400, 0, 0, 0, 0))], []) with
    | some ls => ls.all (fun Y => match Y with
      | (r :: _, _, [v]) => Nat.beq r.2.2.1 40 && (Nat.beq v.1.1 0 && (decide (v.1.2.1 = 1) && decide (v.1.2.2.1 = 1)))
      | _ => false)
    | none => false)
  | none => false
set_option maxRecDepth 100000 in
theorem iv_s19_ok : iv_s19 = true := by decide +kernel
theorem iv_shopX (A : Nat → Nat) (h : g_H) (m1 m2 : Int32) (hI : iv_inv A h) : g_run 60 121 [.ref (A 0), .int m1, .int m2] h 0 0 (fun r h' => r = some (.int (Int32.ofInt (iv_shop m1.toInt m2.toInt))) ∧ iv_inv A h') := by
  have no : ¬ (10 ≤ m1.toInt ∧ m2.toInt ≤ 400 ∧ m1.toInt ≤ m2.toInt ∧ m2.toInt - m1.toInt ≤ 200) → iv_shop m1.toInt m2.toInt = 0 := fun h => if_neg h
  have yes : (10 ≤ m1.toInt ∧ m2.toInt ≤ 400 ∧ m1.toInt ≤ m2.toInt ∧ m2.toInt - m1.toInt ≤ 200) → iv_shop m1.toInt m2.toInt = 1 := fun h => if_pos h
  obtain ⟨q1, q2, q3, q4, q5⟩ := s_mi_ok 121 (3, 2, false, 0, 0, 11) (by decide +kernel)
  obtain ⟨c1, c2⟩ := s_codes_ok 121 (3, 2, false, 0, 0, 11) (by decide +kernel)
  rw [show s_codes.getD 121 [] = s_c_121 from rfl] at c1 c2
  have q3 : g_rt 121 = some .boolean := q3
  refine ⟨q1, by rw [q2]; exact (show 3 ≤ 3 by decide), ?_⟩
  rw [q5, q2, q4]
  intro P hend hcl
  have ret : ∀ {pc len kd a k : Nat} {v0 : Int} {ins : Instr} {Ls : g_L} {x : Int32} {h' : g_H}, s_okI (g_by 121) 11 (pc, len, 40, kd, a, k, v0, ins) = true → (x = 0 ∨ x = 1) → x = Int32.ofInt (iv_shop m1.toInt m2.toInt) → iv_inv A h' → P (pc, Ls, [.int x], 0, 0, h') := by
    intro pc len kd a k v0 ins Ls x h' hok hx hv hI'
    exact hend _ ⟨Nat.le_refl _, Nat.le_refl _, Or.inl ⟨x, .boolean, iv_ireturn hok, q3, by rcases hx with rfl | rfl <;> rfl, rfl, by rw [hv], hI'⟩⟩
  have at17 : ∀ (Ls : g_L), iv_shop m1.toInt m2.toInt = 0 → P (17, Ls, [], 0, 0, h) := by
    intro Ls h0
    refine t_at_ok hcl c2 (n := 1) (pc := 17) (pc' := 18) (L' := Ls) (st' := [.int 0]) rfl ?_
    exact ret (c2 _ (iv_in (c := []) (pc := 18) rfl)) (Or.inl rfl) (by rw [h0]; rfl) hI
  refine t_at_ok hcl c2 (n := 2) (pc := 0) (pc' := 2) (L' := lv_args 0 [.ref (A 0), .int m1, .int m2]) (st' := [.int m2, .int m1]) rfl ?_
  refine iv_stat hcl (c2 _ (iv_in (c := []) (pc := 2) rfl)) (as := [.int m1, .int m2]) (rest := []) rfl (by decide) (Nat.le_refl _) (Nat.le_refl _) ?_
  refine (ct_isSpan (I := fun _ => none) (A := A) (h0 := h) (d := 58) (M := fun _ _ => 0) (post := fun o M' => ∃ r, o = some (0, 0, 0, 1, r) ∧ (r = 0 ∨ r = 1) ∧ (r = 1 ↔ 10 ≤ m1.toInt ∧ m2.toInt ≤ 400 ∧ m1.toInt ≤ m2.toInt)) (fun r hr hr2 => ⟨r, rfl, hr, hr2⟩)) h [.int m1, .int m2] xn_H ⟨iv_i m1, iv_i m2, trivial⟩ _ (fun v M' x h' hv hx hH' => ?_)
  obtain ⟨r, rfl, hr, hr2⟩ := hv
  obtain ⟨y, rfl, m, rfl, hm, -⟩ := hx
  rw [xn_eq hH']
  refine iv_if hcl (c2 _ (iv_in (c := []) (pc := 5) rfl)) (fun hz => at17 _ (no ?_)) (fun hz => ?_)
  · have hz : m.toInt = 0 := hz
    omega
  · have hz : ¬ m.toInt = 0 := hz
    have hs := hr2.1 (by omega)
    refine t_at_ok hcl c2 (n := 4) (pc := 8) (pc' := 14) (L' := lv_args 0 [.ref (A 0), .int m1, .int m2]) (st' := [.int 200, .int (m2 - m1)]) rfl ?_
    have hd : (m2 - m1).toInt = m2.toInt - m1.toInt := by
      rw [Int32.toInt_sub]
      apply Int.bmod_eq_of_le <;> omega
    refine iv_icmp hcl (c2 _ (iv_in (c := []) (pc := 14) rfl)) (fun hz => ?_) (fun hz => at17 _ (no ?_))
    · have hz : (m2 - m1).toInt ≤ (200 : Int32).toInt := hz
      rw [hd, show (200 : Int32).toInt = 200 from rfl] at hz
      have hb := iv_s19_ok
      unfold iv_s19 at hb
      split at hb
      next c ec =>
        split at hb
        next ls el =>
          have hj := s_jump_mem ec
          obtain ⟨⟨W, β, hH, hW⟩, M, hM, hInv⟩ := hI
          obtain ⟨k1, k2⟩ := y_run_ok (φ := iv_ct h) (P := P) hcl y_Rc_ok s_ft_ok s_mi_ok (y_Kc_ok 59) c2 1000 [] _ ls el (fun q hq => c2 q (hj.2 q hq)) (fun g hg => by cases hg)
          have key := k2 W β h (lv_args 0 [.ref (A 0), .int m1, .int m2]) [] hH (fun q hq => ?_) trivial (fun g hg => by cases hg) (fun Y hY => ?_)
          · rw [show s_pc c = 19 from hj.1] at key
            exact key
          · have hq : q ∈ [((0, (2, 0, 0, 0, 0, 0, 0)) : Nat × y_V), (1, (0, 10, 400, 0, 0, 0, 0)), (2, (0, 10, 400, 0, 0, 0, 0))] := hq
            simp only [List.mem_cons, List.not_mem_nil, or_false] at hq
            rcases hq with rfl | rfl | rfl
            · exact iv_gL (by decide) (List.mem_cons_self) ⟨0, A 0, rfl, hW 0 0 rfl⟩
            · exact iv_gL (by decide) (List.mem_cons_of_mem _ List.mem_cons_self) ⟨m1, rfl, by show (10 : Int) ≤ m1.toInt; omega, by show m1.toInt ≤ 400; omega, fun h => absurd rfl h, fun h => absurd rfl h⟩
            · exact iv_gL (by decide) (List.mem_cons_of_mem _ (List.mem_cons_of_mem _ List.mem_cons_self)) ⟨m2, rfl, by show (10 : Int) ≤ m2.toInt; omega, by show m2.toInt ≤ 400; omega, fun h => absurd rfl h, fun h => absurd rfl h⟩
          · have hbY := List.all_eq_true.mp hb Y hY
            have hYI := k1 Y hY
            intro W' β' h' Ls' sts' hWW hb9 hH' hL9 hS
            split at hbY
            next r t L v =>
              simp only [Bool.and_eq_true, Nat.beq_eq, decide_eq_true_eq] at hbY
              obtain ⟨r1, v1, v2, v3⟩ := hbY
              cases sts' with
              | nil => exact hS.elim
              | cons x xs =>
                cases xs with
                | cons _ _ => exact hS.2.elim
                | nil =>
                  obtain ⟨⟨k, lo, hi, rq⟩, cp⟩ := v
                  have v1 : k = 0 := v1
                  have v2 : lo = 1 := v2
                  have v3 : hi = 1 := v3
                  subst v1 v2 v3
                  obtain ⟨⟨n, rfl, n1, n2, -⟩, -⟩ := hS.1
                  have hn : n = 1 := Int32.toInt_inj.mp (by rw [show (1 : Int32).toInt = 1 from rfl]; omega)
                  subst hn
                  have hrI := hYI r List.mem_cons_self
                  obtain ⟨pc, len, q9, kd, a, k9, v0, ins⟩ := r
                  have r1 : q9 = 40 := r1
                  subst r1
                  exact ret hrI (Or.inr rfl) (by rw [yes (by omega)]; rfl) (iv_back hW hM hInv hWW hH')
            next => cases hbY
        next => cases hb
      next => cases hb
    · have hz : (200 : Int32).toInt < (m2 - m1).toInt := hz
      rw [hd, show (200 : Int32).toInt = 200 from rfl] at hz
      omega
theorem iv_shopM (A : Nat → Nat) (h : g_H) (m1 m2 : Int32) (hI : iv_inv A h) : g_run 60 256 [.ref (A 60), .int m1, .int m2] h 0 0 (fun r h' => r = some (.int (Int32.ofInt (iv_shop m1.toInt m2.toInt))) ∧ iv_inv A h') := by
  refine g_run_mono (iv_callM2 (d := 60) hI (vs := [(2, 60, 0, 0, 0), (0, 0, -2147483648, 2147483647, m1.toInt), (0, 0, -2147483648, 2147483647, m2.toInt)]) (xs := [.ref (A 60), .int m1, .int m2]) ⟨rfl, iv_i m1, iv_i m2, trivial⟩ (fun o => o = some (0, 0, 0, 1, iv_shop m1.toInt m2.toInt)) (fun M hM => ms_shopF hM (fun M1 h => ⟨rfl, h⟩))) (fun r h' hp => ⟨?_, hp.2⟩)
  obtain ⟨⟨o, rfl, y, e, z, hz, hz2, -⟩, -⟩ := hp
  rw [e, hz, ← hz2, Int32.ofInt_toInt]
theorem iv_shop_pair (A : Nat → Nat) : iv_pair (iv_inv A) A 121 256 [0, 0] true false := by
  intro h as hI hs
  obtain ⟨m1, ys, rfl, -, hs⟩ := iv_spc hs
  obtain ⟨m2, ys, rfl, -, hs⟩ := iv_spc hs
  obtain rfl := iv_sp0 hs
  refine ⟨0, 0, by decide, by decide, g_run_mono (iv_shopX A h m1 m2 hI) (fun r1 h1 hp => ?_)⟩
  refine ⟨_, hp.1, iv_sh_ok hp.2, g_run_mono (iv_shopM A h1 m1 m2 hp.2) (fun r2 h2 hp2 => ?_)⟩
  exact ⟨⟨_, hp2.1, fun _ => rfl⟩, hp2.2⟩
