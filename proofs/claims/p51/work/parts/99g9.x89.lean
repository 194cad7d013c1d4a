set_option maxRecDepth 20000
/-- there is such a number in the row -/
def rw_P9 (M : xa_M) (a : Int) : Prop := 0 ≤ a ∧ a < M 60 20
def rw_R9 (M : xa_M) (a : Int) (o : Option xa_V) (M1 : xa_M) : Prop := (rw_P9 M a ∧ (∃ lo hi, o = some (1, 0, lo, hi, M 74 a)) ∧ M1 = xa_up M 60 21 0) ∨ (¬ rw_P9 M a ∧ (∃ lo hi v, o = some (1, 0, lo, hi, v)) ∧ M1 = xa_up (xa_up M 60 21 0) 60 21 1)
theorem rw_rowF {A : Nat → Nat} {h0 : g_H} {d : Nat} {M : xa_M} {post : Option xa_V → xa_M → Prop} {l1 u1 : Int} {a : Int} (k : ∀ (o : Option xa_V) (M1 : xa_M), rw_R9 M a o M1 → post o M1) : xa_C xm_I A h0 (d + 2) 301 [(2, 60, 0, 0, 0), (0, 0, l1, u1, a)] M post := by
  refine xa_C_arg [(2, 60, 0, 0, 0), (0, 0, (-2147483648), 2147483647, a)] (xa_svR (xa_svI (fun _ _ _ _ => by omega) xa_sv0)) ?_
  refine xa_meth (Q0 := (2, 3, false, 0, 0, 12)) (by decide +kernel) ⟨rfl, rfl⟩ (full := s_c_301) rfl rfl ?_
  intro hM hv Q hgo
  have b20 := xm_f20 hM
  refine hgo.1 21 [] 0 _ _ _ ?_
  show xa_C xm_I A h0 _ 214 [(0, 0, (-2147483648), 2147483647, a), (0, 0, 0, 0, 0), (0, 0, (-1), 31, (M 60 20) - 1)] (xa_up M 60 21 0) _
  refine ct_in ?_ ?_
  · intro (i1 : 0 ≤ a ∧ a ≤ ((M 60 20) - 1))
    refine And.intro (show 0 ≤ a ∧ a < 32 by omega) ?_
    show post (some (1, 0, (-9223372036854775808), 9223372036854775807, M 74 a)) (xa_up M 60 21 0)
    exact k _ _ (Or.inl ⟨⟨by omega, by omega⟩, ⟨_, _, rfl⟩, rfl⟩)
  · intro (i1 : ¬ (0 ≤ a ∧ a ≤ ((M 60 20) - 1)))
    show xa_C xm_I A h0 _ 224 [(2, 60, 0, 0, 0)] (xa_up M 60 21 0) _
    refine ct_lost ?_
    show post (some (1, 0, 0, 0, 0)) (xa_up (xa_up M 60 21 0) 60 21 1)
    exact k _ _ (Or.inr ⟨fun h => i1 ⟨h.1, by have := h.2; omega⟩, ⟨_, _, _, rfl⟩, rfl⟩)
/-- the reference's word of the throw -/
theorem ms_thrown {A : Nat → Nat} {h0 : g_H} {d : Nat} {M : xa_M} {post : Option xa_V → xa_M → Prop} (k : ∀ lo hi : Int, post (some (0, 0, lo, hi, M 60 21)) M) : xa_C xm_I A h0 (d + 1) 302 [(2, 60, 0, 0, 0)] M post := by
  refine xa_C_arg [(2, 60, 0, 0, 0)] (xa_svR xa_sv0) ?_
  refine xa_meth (Q0 := (1, 1, false, 0, 0, 12)) (by decide +kernel) ⟨rfl, rfl⟩ (full := s_c_302) rfl rfl ?_
  intro hM hv Q hgo
  refine hgo.1 5 [] 0 _ _ _ ?_
  exact k _ _
theorem cx_210_48 {b : Bool} {A : Nat → Nat} {h0 : g_H} {d : Nat} {M : xa_M} {post : Option xa_V → xa_M → Prop} {l1 u1 : Int} {x1 : Int} (k1 : (x1 < 0) → post (some (0, 0, 0, 0, 0)) M) (k2 : (0 ≤ x1) → ((M 48 1) ≤ x1) → post (some (0, 0, 0, 0, 0)) M) (k3 : (0 ≤ x1) → (x1 < (M 48 1)) → post (some (0, 0, 1, 1, 1)) M) : xa_C (xl_I b) A h0 (d + 1) 210 [(2, 48, 0, 0, 0), (0, 0, l1, u1, x1)] M post := by
  refine xa_C_arg [(2, 48, 0, 0, 0), (0, 0, (-2147483648), 2147483647, x1)] (xa_svR (xa_svI (fun _ _ _ _ => by omega) (xa_sv0))) ?_
  refine xa_meth (Q0 := (2, 2, false, 0, 0, 6)) (by decide +kernel) ⟨rfl, rfl⟩ (full := s_c_210) rfl rfl ?_
  intro hM hv Q hgo
  refine hgo.1 13 [] 0 _ _ _ ?_
  refine And.intro ?_ ?_
  · intro (c1 : x1 < 0)
    show post (some (0, 0, 0, 0, 0)) M
    exact k1 c1
  · intro (c1 : 0 ≤ x1)
    refine And.intro ?_ ?_
    · intro (c2 : (M 48 1) ≤ x1)
      show post (some (0, 0, 0, 0, 0)) M
      exact k2 c1 c2
    · intro (c2 : x1 < (M 48 1))
      show post (some (0, 0, 1, 1, 1)) M
      exact k3 c1 c2
theorem cx_52_49 {b : Bool} {A : Nat → Nat} {h0 : g_H} {d : Nat} {M : xa_M} {post : Option xa_V → xa_M → Prop} {l1 u1 : Int} {i : Int} (h1 : 0 ≤ i ∧ i < 16) (k1 : post (some (1, 0, (-9223372036854775808), 9223372036854775807, M 49 i)) M) : xa_C (xl_I b) A h0 (d + 1) 52 [(2, 49, 0, 0, 0), (0, 0, l1, u1, i)] M post := by
  refine xa_C_arg [(2, 49, 0, 0, 0), (0, 0, (-2147483648), 2147483647, i)] (xa_svR (xa_svI (fun _ _ _ _ => by omega) xa_sv0)) ?_
  refine xa_meth (Q0 := (2, 3, false, 0, 0, 11)) (by decide +kernel) ⟨rfl, rfl⟩ (full := s_c_52) rfl rfl ?_
  intro hM hv Q hgo
  refine hgo.1 15 [] 0 _ _ _ ?_
  refine And.intro ?_ ?_
  · intro (c1 : i < 0)
    show post (some (1, 0, 0, 0, 0)) M
    exact absurd h1 (by omega)
  · intro (c1 : 0 ≤ i)
    refine And.intro ?_ ?_
    · intro (c2 : 16 ≤ i)
      show post (some (1, 0, 0, 0, 0)) M
      exact absurd h1 (by omega)
    · intro (c2 : i < 16)
      refine And.intro (show 0 ≤ i ∧ i < 16 by omega) ?_
      show post (some (1, 0, (-9223372036854775808), 9223372036854775807, M 49 i)) M
      exact k1
theorem cx_211_48 {b : Bool} {A : Nat → Nat} {h0 : g_H} {d : Nat} {M : xa_M} {post : Option xa_V → xa_M → Prop} {l1 u1 : Int} {x1 : Int} (h1 : 0 ≤ x1 ∧ x1 < 16) (k1 : post (some (1, 0, (-9223372036854775808), 9223372036854775807, M 49 x1)) M) : xa_C (xl_I b) A h0 (d + 2) 211 [(2, 48, 0, 0, 0), (0, 0, l1, u1, x1)] M post := by
  refine xa_C_arg [(2, 48, 0, 0, 0), (0, 0, (-2147483648), 2147483647, x1)] (xa_svR (xa_svI (fun _ _ _ _ => by omega) (xa_sv0))) ?_
  refine xa_meth (Q0 := (2, 3, false, 0, 0, 6)) (by decide +kernel) ⟨rfl, rfl⟩ (full := s_c_211) rfl rfl ?_
  intro hM hv Q hgo
  refine hgo.1 9 [] 0 _ _ _ ?_
  show xa_C (xl_I b) A h0 _ 52 [(2, 49, 0, 0, 0), (0, 0, (-2147483648), 2147483647, x1)] M _
  refine cx_52_49 (show 0 ≤ x1 ∧ x1 < 16 by omega) ?_
  show post (some (1, 0, (-9223372036854775808), 9223372036854775807, M 49 x1)) M
  exact k1
/-- the two stand together, the reference's numbers are those of M, the row is one -/
def rw_T9 (A : Nat → Nat) (M : xa_M) (h : g_H) : Prop := (∃ W b, iv_JW A W b h) ∧ xa_H xm_I A M h h ∧ rw_I (iv_num h) M
/-- a question to the row -/
theorem rw_q9 {A : Nat → Nat} {W : y_W} {b : Bool} {h : g_H} {M : xa_M} (hJ : iv_JW A W b h) (hM : xa_H xm_I A M h h) (hInv : xm_Inv M) (hI : rw_I (iv_num h) M) {j : Nat} {m1 : Int32} {Z : xa_V → Prop} (hC : xa_C (xl_I b) A h 50 j [(2, 48, 0, 0, 0), (0, 0, (-2147483648), 2147483647, m1.toInt)] (iv_num h) (fun o M2 => (∃ v, o = some v ∧ Z v) ∧ M2 = iv_num h)) : g_run 50 j [.ref (A 48), .int m1] h 0 0 (fun r h1 => iv_JW A W b h1 ∧ xa_H xm_I A M h1 h1 ∧ rw_I (iv_num h1) M ∧ (∀ i : Int, 0 ≤ i → i < iv_num h 48 1 → iv_num h1 49 i = iv_num h 49 i) ∧ iv_num h1 48 1 = iv_num h 48 1 ∧ ∃ v : xa_V, xa_gR A (some v) r ∧ Z v) := by
  have hQ : iv_Q A W b h (iv_num h) := ⟨hJ.1, hJ.2.1, hJ.2.2.2, fun _ _ _ _ => rfl⟩
  refine g_run_mono (rz_Qc (d := 50) hQ (vs := [(2, 48, 0, 0, 0), (0, 0, (-2147483648), 2147483647, m1.toInt)]) (xs := [.ref (A 48), .int m1]) ⟨rfl, iv_i m1, trivial⟩ hC) (fun r h1 hp => ?_)
  obtain ⟨o9, M9, ⟨⟨v, rfl, hZ⟩, rfl⟩, hr9, hQ9, hX9, km9, -⟩ := hp
  have b48 := hI.2.1
  have k49 : ∀ i : Int, 0 ≤ i → i < iv_num h 48 1 → iv_num h1 49 i = iv_num h 49 i := fun i i0 i1 => rw_n49 hX9 i0 (by omega)
  exact ⟨iv_Qm hQ9 (km9 M hM) (km9 M hM) hInv (fun _ => rfl) (fun _ => rfl) (iv_xj hJ hM), km9 M hM, rw_I_k hI (rw_n48 hX9) rfl k49 (fun _ _ _ => rfl), k49, rw_n48 hX9, v, hr9, hZ⟩
theorem rw_lret {cc : ByteArray} {o pc len kd a k : Nat} {v : Int} {ins : Instr} (hI : s_okI cc o (pc, len, 41, kd, a, k, v, ins) = true) : decode cc pc = .ok (.lreturn, 1) := by
  obtain ⟨⟨n, hd, hlen, hne⟩, hQ, -⟩ := s_okI_eq hI (by decide)
  have hi : ins = .lreturn := of_decide_eq_true hQ
  subst hi
  have := hne (by decide)
  rw [this] at hd
  exact hd
theorem rw_rX {A : Nat → Nat} {W : y_W} {b : Bool} {h : g_H} {M : xa_M} (hJ : iv_JW A W b h) (hM : xa_H xm_I A M h h) (hInv : xm_Inv M) (hI : rw_I (iv_num h) M) (m1 : Int32) : ∀ P : g_S → Prop, (∀ S, g_end (g_by 209) (g_rt 209) 0 0 (fun r h' => (∃ y : Int64, r = some (.long y) ∧ y.toInt = M 74 m1.toInt) ∧ rw_P9 M m1.toInt ∧ rw_T9 A M h') S → P S) → (∀ L h', (rw_T9 A M h' ∧ ¬ rw_P9 M m1.toInt) → P (11, L, [], 0, 0, h')) → (∀ S, g_pre (g_run 50) 11 2 false 0 0 (g_by 209) P S → P S) → P (0, lv_args 0 [.ref (A 0), .int m1], [], 0, 0, h) := by
  intro P hend h11 hcl
  obtain ⟨q1, q2, q3, q4, q5⟩ := s_mi_ok 209 (2, 3, false, 0, 0, 11) (by decide +kernel)
  obtain ⟨c1, c2⟩ := s_codes_ok 209 (2, 3, false, 0, 0, 11) (by decide +kernel)
  rw [show s_codes.getD 209 [] = s_c_209 from rfl] at c1 c2
  have q3 : g_rt 209 = some .long := q3
  show P (0, [(0, .ref (A 0)), (1, .int m1)], [], 0, 0, h)
  have t210 : (g_me 210).2.1 = 6 := (s_mi_ok 210 _ (show s_mi[210]? = some (2, 2, false, 0, 0, 6) by decide +kernel)).2.2.2.2
  have t211 : (g_me 211).2.1 = 6 := (s_mi_ok 211 _ (show s_mi[211]? = some (2, 3, false, 0, 0, 6) by decide +kernel)).2.2.2.2
  have m0 : ((0 : Nat), Value.ref (A 0)) ∈ ([(0, .ref (A 0)), (1, .int m1)] : g_L) := List.mem_cons_self
  have m1' : ((1 : Nat), Value.int m1) ∈ ([(0, .ref (A 0)), (1, .int m1)] : g_L) := List.mem_cons_of_mem _ List.mem_cons_self
  obtain ⟨f0, g0, e0, -, ⟨y1, g1⟩, -⟩ := un_c0 hJ
  have b48 := hI.2.1
  have e48 := hI.1
  refine ir_ld hcl (iv_dec (c2 _ (iv_in (c := []) (pc := 0) rfl)) (by decide) (by decide)) rfl m0 rfl ?_
  refine iv_getfield hcl (c2 _ (iv_in (c := []) (pc := 1) rfl)) (Or.inl rfl) (q := 0) (n := 12) (f := f0) g0 (by decide) ?_
  rw [e0]
  refine ir_ld hcl (iv_dec (c2 _ (iv_in (c := []) (pc := 4) rfl)) (by decide) (by decide)) rfl m1' rfl ?_
  refine iv_virt (as := [.int m1]) (rest := []) hcl (c2 _ (iv_in (c := []) (pc := 5) rfl)) (q := 48) (by rw [t210]; exact g1) rfl (show g_sum [] ≤ 8 by first | decide | exact (show (1 : Nat) ≤ 8 by decide)) (mc := 0) (ms := 0) (by decide) (by decide) (g_run_mono (rw_q9 hJ hM hInv hI (Z := fun v => ∃ lo hi z, v = (0, 0, lo, hi, z) ∧ ((z = 0 ∧ ¬ rw_P9 M m1.toInt) ∨ (z = 1 ∧ rw_P9 M m1.toInt))) (cx_210_48 (d := 49) (fun c => ⟨⟨_, rfl, _, _, _, rfl, Or.inl ⟨rfl, fun hp => by have q1 := hp.1; have q2 := hp.2; omega⟩⟩, rfl⟩) (fun c c2 => ⟨⟨_, rfl, _, _, _, rfl, Or.inl ⟨rfl, fun hp => by have q1 := hp.1; have q2 := hp.2; omega⟩⟩, rfl⟩) (fun c c2 => ⟨⟨_, rfl, _, _, _, rfl, Or.inr ⟨rfl, ⟨by omega, by omega⟩⟩⟩, rfl⟩))) (fun r h9 hp => ?_))
  obtain ⟨J9, M9, I9, k49, k48, v, hr, lo, hi, z0, rfl, hz⟩ := hp
  obtain ⟨z, rfl, hz9⟩ := iv_gRi hr
  show P (8, _, [.int z], 0, 0, h9)
  refine ir_if hcl (iv_dec (c2 _ (iv_in (c := []) (pc := 8) rfl)) (by decide) (by decide)) 22 rfl rfl ?_
  rcases hz with ⟨z1, hn⟩ | ⟨z1, hy⟩
  · have ez : z = 0 := Int32.toInt_inj.mp (hz9.trans z1)
    rw [ez, if_neg (show ¬ g_c1 0 .ne = true by decide)]
    exact h11 _ _ ⟨⟨⟨W, b, J9⟩, M9, I9⟩, hn⟩
  have ez : z = 1 := Int32.toInt_inj.mp (hz9.trans z1)
  rw [ez, if_pos (show g_c1 1 .ne = true by decide)]
  obtain ⟨f9, k0, e9, -, ⟨y9, k1⟩, -⟩ := un_c0 J9
  have w0 := hy.1
  have w1 := hy.2
  refine ir_ld hcl (iv_dec (c2 _ (iv_in (c := []) (pc := 22) rfl)) (by decide) (by decide)) rfl m0 rfl ?_
  refine iv_getfield hcl (c2 _ (iv_in (c := []) (pc := 23) rfl)) (Or.inl rfl) (q := 0) (n := 12) (f := f9) k0 (by decide) ?_
  rw [e9]
  refine ir_ld hcl (iv_dec (c2 _ (iv_in (c := []) (pc := 26) rfl)) (by decide) (by decide)) rfl m1' rfl ?_
  refine iv_virt (as := [.int m1]) (rest := []) hcl (c2 _ (iv_in (c := []) (pc := 27) rfl)) (q := 48) (by rw [t211]; exact k1) rfl (show g_sum [] ≤ 8 by first | decide | exact (show (1 : Nat) ≤ 8 by decide)) (mc := 0) (ms := 0) (by decide) (by decide) (g_run_mono (rw_q9 J9 M9 hInv I9 (Z := fun v => ∃ lo hi, v = (1, 0, lo, hi, iv_num h9 49 m1.toInt)) (cx_211_48 (d := 48) (show 0 ≤ m1.toInt ∧ m1.toInt < 16 by omega) ⟨⟨_, rfl, _, _, rfl⟩, rfl⟩)) (fun r h8 hp => ?_))
  obtain ⟨J8, M8, I8, -, -, v, hr8, lo8, hi8, rfl⟩ := hp
  obtain ⟨y2, rfl, y, rfl, hy8, -⟩ := hr8
  show P (30, _, [.long y], 0, 0, h8)
  exact hend _ ⟨Nat.le_refl _, Nat.le_refl _, Or.inr (Or.inl ⟨y, rw_lret (c2 _ (iv_in (c := []) (pc := 30) rfl)), q3, rfl, ⟨y, rfl, hy8.trans (I9.2.2 m1.toInt w0 (by rw [k48]; omega))⟩, hy, ⟨W, b, J8⟩, M8, I8⟩)⟩
