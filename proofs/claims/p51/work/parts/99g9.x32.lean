-- turns: what both sides answer
set_option maxRecDepth 20000
/-- its numbers are too long to show, on the other side -/
def tw_L (N : xa_M) (a : Int) : Prop := 1000000000 < ((N 75 a).natAbs : Int) ∨ 1000000000 < N 76 a
theorem tw_s3 {N : xa_M} {v w a : Int} {T : xa_M → Int → Prop} (hs : (v = w ∧ ¬ w = 0) ∨ (w = 0 ∧ N 77 a = 0 ∧ v = -2) ∨ (w = 0 ∧ N 77 a = 1 ∧ v = 0)) (hv : ¬ v = 0) : (¬ w = 0 ∧ v = w) ∨ (w = 0 ∧ N 77 a = 0 ∧ v = -2) ∨ (w = 0 ∧ N 77 a = 1 ∧ T N v) := by
  rcases hs with ⟨x, y⟩ | ⟨x, y, z⟩ | ⟨-, -, z⟩
  · exact Or.inl ⟨y, x⟩
  · exact Or.inr (Or.inl ⟨x, y, z⟩)
  · exact absurd z hv
/-- the answer that fairState gives -/
def tw_fT (a : Int) (N : xa_M) (v : Int) : Prop := (tw_L N a ∧ v = -5) ∨ (¬ tw_L N a ∧ v = 0)
theorem tw_fT_one {a : Int} {N N' : xa_M} {v v' : Int} (e1 : N' 75 a = N 75 a) (e2 : N' 76 a = N 76 a) (h : tw_fT a N v) (h' : tw_fT a N' v') : v = v' := by
  unfold tw_fT tw_L at h h'
  rw [e1, e2] at h'
  rcases h with ⟨a1, a2⟩ | ⟨a1, a2⟩
  · rcases h' with ⟨-, b2⟩ | ⟨b1, -⟩
    · omega
    · exact absurd a1 b1
  · rcases h' with ⟨b1, -⟩ | ⟨-, b2⟩
    · exact absurd b1 a1
    · omega
theorem tw_f5 {a v : Int} {N : xa_M} (h : tw_fT a N v) (hv : v < 0) : tw_L N a := by
  rcases h with ⟨h, -⟩ | ⟨-, e⟩
  · exact h
  · omega
theorem tw_f0 {a v : Int} {N : xa_M} (h : tw_fT a N v) (hv : 0 ≤ v) : ¬ tw_L N a := by
  rcases h with ⟨-, e⟩ | ⟨h, -⟩
  · omega
  · exact h
theorem tw_s5 {N : xa_M} {v w a : Int} {T : xa_M → Int → Prop} (hs : (v = w ∧ ¬ w = 0) ∨ (w = 0 ∧ N 77 a = 0 ∧ v = -2) ∨ (w = 0 ∧ N 77 a = 1 ∧ T N v)) (hw : w = 0) (h7 : ¬ N 77 a = 0) : T N v := by
  rcases hs with ⟨-, x⟩ | ⟨-, x, -⟩ | ⟨-, -, x⟩
  · exact absurd hw x
  · exact absurd x h7
  · exact x
/-- shown, by the search's numbers -/
theorem tw_H {N0 C1 : xa_M} {a v : Int} (h : tu_H N0 a v C1) : tw_A N0 a v (tw_fT a) := by
  rcases h with ⟨h1, h2⟩ | ⟨h1, h2⟩
  · exact tw_A_of h2 (fun e => absurd e h1)
  · refine tw_A_to h1 (fun N _ _ _ e _ => ?_)
    unfold tw_fT tw_L
    unfold tu_L at h2
    rw [e.1, e.2] at h2
    exact h2
/-- bits of those that are so -/
theorem tw_b1 {P : Int → Prop} {a x : Int} (a0 : 0 ≤ a) (hP : P a) (hx : x = wd_b P a.toNat) : xa_ib 4 x (xa_ib 6 1 a) = wd_b P (a + 1).toNat := by
  have e : ((a.toNat : Nat) : Int) = a := Int.toNat_of_nonneg a0
  rw [show (a + 1).toNat = a.toNat + 1 by omega, wd_b1 (by rw [e]; exact hP), e, hx]
theorem tw_b0 {P : Int → Prop} {a x : Int} (a0 : 0 ≤ a) (hP : ¬ P a) (hx : x = wd_b P a.toNat) : x = wd_b P (a + 1).toNat := by
  have e : ((a.toNat : Nat) : Int) = a := Int.toNat_of_nonneg a0
  rw [show (a + 1).toNat = a.toNat + 1 by omega, wd_b0 (by rw [e]; exact hP), hx]
theorem tw_bz {P : Int → Prop} {a x : Int} (a0 : 0 ≤ a) (hP : ¬ P a) (hx : x = wd_b P a.toNat) : xa_ib 4 x 0 = wd_b P (a + 1).toNat := by
  have r := wd_b_r (P := P) a.toNat
  rw [bk_or0 (by omega) (by omega)]
  exact tw_b0 a0 hP hx
/-- what turning answers -/
def tw_61 (N0 : xa_M) (v : Int) : Prop := ∃ (w : Int) (N : xa_M), tw_F N0 (-1) w N ∧ ((¬ w = 0 ∧ v = w) ∨ (w = 0 ∧ v = wd_b (fun a => ¬ N 77 a = 0) 10))
theorem tw_61_one {N0 : xa_M} {v v' : Int} (hr : xm_rng N0) (h : tw_61 N0 v) (h' : tw_61 N0 v') : v = v' := by
  obtain ⟨w, N, hF, h2⟩ := h
  obtain ⟨w', N', hF', h3⟩ := h'
  obtain ⟨rfl, hag⟩ := tw_F_det hr hF hF'
  rcases h2 with ⟨e1, e2⟩ | ⟨rfl, e2⟩
  · rcases h3 with ⟨-, e3⟩ | ⟨e3, -⟩
    · omega
    · exact absurd e3 e1
  · rcases h3 with ⟨e3, -⟩ | ⟨-, e3⟩
    · exact absurd rfl e3
    · obtain ⟨-, h7⟩ := hag (by decide)
      rw [e2, e3]
      exact wd_b_e 10 (fun p hp => by
        obtain ⟨-, k2, -⟩ := h7 (p : Int) (by omega) (by omega)
        show ¬ N 77 (p : Int) = 0 ↔ ¬ N' 77 (p : Int) = 0
        rw [k2])
theorem tw_61_of {N0 C1 : xa_M} {w v : Int} (hV : tu_V (-1) N0 w C1) (h : (¬ w = 0 ∧ v = w) ∨ (w = 0 ∧ v = wd_b (fun a => ¬ C1 14 a = 0) 10)) : tw_61 N0 v := by
  obtain ⟨N, h1, h2⟩ := hV
  refine ⟨w, N, ⟨N0, xm_cor_r, h1⟩, ?_⟩
  rcases h with h | ⟨rfl, h⟩
  · exact Or.inl h
  · refine Or.inr ⟨rfl, h.trans (wd_b_e 10 (fun p hp => ?_))⟩
    have hz := tu_z (h2 (by decide)) (show (0 : Int) ≤ (p : Int) by omega) (by omega)
    show ¬ C1 14 (p : Int) = 0 ↔ ¬ N 77 (p : Int) = 0
    omega
/-- the meshes below m, each left out -/
def tw_J (N0 : xa_M) (m : Int) (T : Int → Int) : Prop := ∀ j, 0 ≤ j → j < m → (T j = 0 ∨ T j = -3) ∧ ∃ N, tw_F N0 j (T j) N
theorem tw_Js {N0 N : xa_M} {m w : Int} {T : Int → Int} (h : tw_J N0 m T) (hw : w = 0 ∨ w = -3) (hF : tw_F N0 m w N) : ∃ T', tw_J N0 (m + 1) T' ∧ T' m = w ∧ ∀ j, 0 ≤ j → j < m → T' j = T j := by
  refine ⟨fun j => if j = m then w else T j, fun j j0 j1 => ?_, if_pos rfl, fun j j0 j1 => if_neg (by omega)⟩
  by_cases e : j = m
  · subst e
    show ((if j = j then w else T j) = 0 ∨ (if j = j then w else T j) = -3) ∧ ∃ N, tw_F N0 j (if j = j then w else T j) N
    rw [if_pos rfl]
    exact ⟨hw, N, hF⟩
  · show ((if j = m then w else T j) = 0 ∨ (if j = m then w else T j) = -3) ∧ ∃ N, tw_F N0 j (if j = m then w else T j) N
    rw [if_neg e]
    exact h j j0 (by omega)
/-- what jams answers -/
def tw_62 (N0 : xa_M) (v : Int) : Prop := ∃ (w : Int) (N : xa_M), tw_F N0 (-1) w N ∧ ((¬ w = -3 ∧ v = w) ∨ (w = -3 ∧ ∃ (c : Int) (T : Int → Int), 0 ≤ c ∧ c ≤ N0 60 6 ∧ tw_J N0 c T ∧ ((c = N0 60 6 ∧ v = wd_b (fun j => T j = 0) c.toNat) ∨ (c < N0 60 6 ∧ (∃ N, tw_F N0 c (-5) N) ∧ v = -5))))
theorem tw_J_one {N0 : xa_M} {c c' : Int} {T T' : Int → Int} (hr : xm_rng N0) (h : tw_J N0 c T) (h' : tw_J N0 c' T') : ∀ j, 0 ≤ j → j < c → j < c' → T j = T' j := by
  intro j j0 j1 j2
  obtain ⟨-, N, hF⟩ := h j j0 j1
  obtain ⟨-, N', hF'⟩ := h' j j0 j2
  exact (tw_F_det hr hF hF').1.symm
theorem tw_62_one {N0 : xa_M} {v v' : Int} (hr : xm_rng N0) (h : tw_62 N0 v) (h' : tw_62 N0 v') : v = v' := by
  obtain ⟨w, N, hF, h2⟩ := h
  obtain ⟨w', N', hF', h3⟩ := h'
  obtain ⟨rfl, -⟩ := tw_F_det hr hF hF'
  rcases h2 with ⟨e1, e2⟩ | ⟨e1, c, T, c0, c1, hJ, h4⟩
  · rcases h3 with ⟨-, e3⟩ | ⟨e3, -⟩
    · omega
    · exact absurd e3 e1
  · rcases h3 with ⟨e3, -⟩ | ⟨-, c', T', d0, d1, hJ', h5⟩
    · exact absurd e1 e3
    · have hT := tw_J_one hr hJ hJ'
      rcases h4 with ⟨rfl, e2⟩ | ⟨e1, ⟨N1, hN1⟩, e2⟩
      · rcases h5 with ⟨rfl, e3⟩ | ⟨e3, ⟨N2, hN2⟩, -⟩
        · rw [e2, e3]
          exact wd_b_e _ (fun p hp => by
            show T (p : Int) = 0 ↔ T' (p : Int) = 0
            rw [hT (p : Int) (by omega) (by omega) (by omega)])
        · exfalso
          obtain ⟨k1, N3, hN3⟩ := hJ c' d0 e3
          have := (tw_F_det hr hN3 hN2).1
          omega
      · rcases h5 with ⟨rfl, e3⟩ | ⟨-, -, e3⟩
        · exfalso
          obtain ⟨k1, N3, hN3⟩ := hJ' c c0 e1
          have := (tw_F_det hr hN3 hN1).1
          omega
        · omega
/-- where more is asked than of an axle -/
def tw_P (P : Prop) (N0 : xa_M) (a v : Int) (T : xa_M → Int → Prop) : Prop := (¬ P ∧ v = -1) ∨ (P ∧ tw_A N0 a v T)
theorem tw_Pn {P : Prop} {N0 : xa_M} {a : Int} {T : xa_M → Int → Prop} (h : ¬ (0 ≤ a ∧ a ≤ 9)) : tw_P P N0 a (-1) T := by
  by_cases c : P
  · exact Or.inr ⟨c, Or.inl ⟨h, rfl⟩⟩
  · exact Or.inl ⟨c, rfl⟩
theorem tw_P_one {P : Prop} {N0 : xa_M} {a v v' : Int} {T T' : xa_M → Int → Prop} (hr : xm_rng N0) (h : tw_P P N0 a v T) (h' : tw_P P N0 a v' T') (hT : ∀ N N', xm_cor N N' → (∀ c, 0 ≤ c → c < 10 → N' 77 c = N 77 c ∧ (N 77 c = 1 → N' 75 c = N 75 c ∧ N' 76 c = N 76 c)) → N 77 a = 1 → N' 75 a = N 75 a → N' 76 a = N 76 a → T N v → T' N' v' → v = v') : v = v' := by
  rcases h with ⟨h1, h2⟩ | ⟨h1, h2⟩
  · rcases h' with ⟨-, h3⟩ | ⟨h3, -⟩
    · omega
    · exact absurd h3 h1
  · rcases h' with ⟨h3, -⟩ | ⟨-, h3⟩
    · exact absurd h1 h3
    · exact tw_A_one hr h2 h3 hT
/-- what show answers -/
def tw_66 (N0 : xa_M) (a y v : Int) : Prop := tw_P (0 ≤ y ∧ y ≤ 2000) N0 a v (tw_fT a)
theorem tw_66_one {N0 : xa_M} {a y v v' : Int} (hr : xm_rng N0) (h : tw_66 N0 a y v) (h' : tw_66 N0 a y v') : v = v' := tw_P_one hr h h' (fun _ _ _ _ _ e1 e2 t t' => tw_fT_one e1 e2 t t')
theorem tw_s4 {N : xa_M} {v v' w a : Int} {T : xa_M → Int → Prop} (hs : (v = w ∧ ¬ w = 0) ∨ (w = 0 ∧ N 77 a = 0 ∧ v = -2) ∨ (w = 0 ∧ N 77 a = 1 ∧ T N v)) (hv : v' = v) : (¬ w = 0 ∧ v' = w) ∨ (w = 0 ∧ N 77 a = 0 ∧ v' = -2) ∨ (w = 0 ∧ N 77 a = 1 ∧ T N v') := by
  subst hv
  rcases hs with ⟨x, y⟩ | h
  · exact Or.inl ⟨y, x⟩
  · exact Or.inr h
theorem cx_55y {b : Bool} {A : Nat → Nat} {h0 : g_H} {d : Nat} {M : xa_M} {post : Option xa_V → xa_M → Prop} {l1 u1 l2 u2 x y : Int} (hx : -9223372036854775807 ≤ x ∧ x ≤ 9223372036854775807) (hy : 1 ≤ y ∧ y ≤ 9223372036854775807) (k : ∀ g : Int, g = (Int.gcd x y : Int) → 1 ≤ g → g ≤ 9223372036854775807 → post (some (1, 0, 0, 9223372036854775807, g)) M) : xa_C (xl_I b) A h0 (d + 2) 55 [(1, 0, l1, u1, x), (1, 0, l2, u2, y)] M post :=
  cx_55g hx (by omega) (fun g hg _ g1 => k g hg (by rw [hg]; exact tu_gp hy.1) g1)
/-- shown has said 0 -/
theorem tu_H0 {N0 C1 : xa_M} {a : Int} (h : tu_H N0 a 0 C1) : tu_S N0 a 0 C1 ∧ ¬ tu_L C1 a := by
  rcases h with ⟨h1, -⟩ | ⟨h1, ⟨-, e⟩ | ⟨e, -⟩⟩
  · exact absurd rfl h1
  · omega
  · exact ⟨h1, e⟩
theorem tw_tm {x y : Int} (h : 1 ≤ y) : -y < x.tmod y ∧ x.tmod y < y := by
  have a := Int.tmod_lt_of_pos x (show 0 < y by omega)
  have b := Int.lt_tmod_of_pos x (show 0 < y by omega)
  omega
theorem cx_67 {b : Bool} {A : Nat → Nat} {h0 : g_H} {d : Nat} {M : xa_M} {post : Option xa_V → xa_M → Prop} {l0 u0 : Int} {x1 : Int} (k1 : (x1 < 0) → post (some (0, 0, 0, 0, 0)) M) (k2 : (0 ≤ x1) → (2000 < x1) → post (some (0, 0, 0, 0, 0)) M) (k3 : (0 ≤ x1) → (x1 ≤ 2000) → post (some (0, 0, 1, 1, 1)) M) : xa_C (xl_I b) A h0 (d + 1) 67 [(0, 0, l0, u0, x1)] M post := by
  refine xa_C_arg [(0, 0, (-2147483648), 2147483647, x1)] (xa_svI (fun _ _ _ _ => by omega) (xa_sv0)) ?_
  refine xa_meth (Q0 := (1, 2, false, 0, 0, 11)) (by decide +kernel) ⟨rfl, rfl⟩ (full := s_c_67) rfl rfl ?_
  intro hM hv Q hgo
  refine hgo.1 12 [] 0 _ _ _ ?_
  refine And.intro ?_ ?_
  · intro (c1 : x1 < 0)
    show post (some (0, 0, 0, 0, 0)) M
    exact k1 c1
  · intro (c1 : 0 ≤ x1)
    refine And.intro ?_ ?_
    · intro (c2 : 2000 < x1)
      show post (some (0, 0, 0, 0, 0)) M
      exact k2 c1 c2
    · intro (c2 : x1 ≤ 2000)
      show post (some (0, 0, 1, 1, 1)) M
      exact k3 c1 c2
/-- when two axles stand together again -/
def tw_y (U D U' D' v : Int) : Prop := (100000 < (D * D').tdiv (Int.gcd (U * D' - U' * D) (D * D') : Int) ∧ v = -6) ∨ ((D * D').tdiv (Int.gcd (U * D' - U' * D) (D * D') : Int) ≤ 100000 ∧ v = (D * D').tdiv (Int.gcd (U * D' - U' * D) (D * D') : Int))
theorem tw_y1 {U D U' D' v v' : Int} (h : tw_y U D U' D' v) (h' : tw_y U D U' D' v') : v = v' := by
  rcases h with ⟨a, b⟩ | ⟨a, b⟩ <;> rcases h' with ⟨c, d⟩ | ⟨c, d⟩ <;> omega
theorem tw_y2 {U D U' D' g : Int} (hD : 1 ≤ D * D') (hg : g = (Int.gcd (U * D' - U' * D) (D * D') : Int)) (h : (D * D').tdiv g ≤ 100000) : tw_y U D U' D' (xa_w32 ((D * D').tdiv g)) := by
  have p : 0 ≤ (D * D').tdiv g := Int.tdiv_nonneg (by omega) (by rw [hg]; exact Int.natCast_nonneg _)
  rw [xa_w32_id (by omega) (by omega)]
  subst hg
  exact Or.inr ⟨h, rfl⟩
theorem tw_y6 {U D U' D' g : Int} (hg : g = (Int.gcd (U * D' - U' * D) (D * D') : Int)) (h : 100000 < (D * D').tdiv g) : tw_y U D U' D' (-6) := by
  subst hg
  exact Or.inl ⟨h, rfl⟩
/-- of an axle that turns -/
def tw_tT (a b : Int) (N : xa_M) (v : Int) : Prop := (N 77 b = 0 ∧ v = -2) ∨ (N 77 b = 1 ∧ (tw_L N a ∨ tw_L N b) ∧ v = -5) ∨ (N 77 b = 1 ∧ ¬ (tw_L N a ∨ tw_L N b) ∧ tw_y (N 75 a) (N 76 a) (N 75 b) (N 76 b) v)
theorem tw_tT_one {a b v v' : Int} {N N' : xa_M} (b0 : 0 ≤ b ∧ b ≤ 9) (h7 : ∀ c, 0 ≤ c → c < 10 → N' 77 c = N 77 c ∧ (N 77 c = 1 → N' 75 c = N 75 c ∧ N' 76 c = N 76 c)) (e1 : N' 75 a = N 75 a) (e2 : N' 76 a = N 76 a) (h : tw_tT a b N v) (h' : tw_tT a b N' v') : v = v' := by
  obtain ⟨k1, k2⟩ := h7 b b0.1 (by omega)
  unfold tw_tT at h h'
  rcases h with ⟨x1, x2⟩ | ⟨x1, x2, x3⟩ | ⟨x1, x2, x3⟩
  · rw [k1] at h'
    omega
  · obtain ⟨k3, k4⟩ := k2 x1
    unfold tw_L at x2 h'
    rw [k1, e1, e2, k3, k4] at h'
    rcases h' with ⟨y1, -⟩ | ⟨-, -, y3⟩ | ⟨-, y2, -⟩
    · omega
    · omega
    · exact absurd x2 y2
  · obtain ⟨k3, k4⟩ := k2 x1
    unfold tw_L at x2 h'
    rw [k1, e1, e2, k3, k4] at h'
    rcases h' with ⟨y1, -⟩ | ⟨-, y2, -⟩ | ⟨-, -, y3⟩
    · omega
    · exact absurd y2 x2
    · exact tw_y1 x3 y3
def tw_72 (N0 : xa_M) (a b v : Int) : Prop := tw_P (0 ≤ b ∧ b ≤ 9) N0 a v (tw_tT a b)
theorem tw_72_one {N0 : xa_M} {a b v v' : Int} (hr : xm_rng N0) (h : tw_72 N0 a b v) (h' : tw_72 N0 a b v') : v = v' := by
  by_cases c : 0 ≤ b ∧ b ≤ 9
  · exact tw_P_one hr h h' (fun _ _ _ h7 _ e1 e2 t t' => tw_tT_one c h7 e1 e2 t t')
  · rcases h with ⟨-, e⟩ | ⟨e, -⟩
    · rcases h' with ⟨-, e'⟩ | ⟨e', -⟩
      · omega
      · exact absurd e' c
    · exact absurd e c
theorem tw_Lc {C N : xa_M} {a : Int} (h : C 13 a = N 75 a ∧ C 14 a = N 76 a) : tu_L C a ↔ tw_L N a := by
  unfold tu_L tw_L
  rw [h.1, h.2]
/-- the words of 64 bits hold it -/
theorem tw_w {C : xa_M} {a b : Int} (ha : ¬ tu_L C a) (hb : ¬ tu_L C b) (a1 : 1 ≤ C 14 a) (b1 : 1 ≤ C 14 b) : (xa_w64 (C 13 a * C 14 b) = C 13 a * C 14 b ∧ xa_w64 (C 13 b * C 14 a) = C 13 b * C 14 a) ∧ xa_w64 (C 14 a * C 14 b) = C 14 a * C 14 b ∧ xa_w64 (xa_w64 (C 13 a * C 14 b) - xa_w64 (C 13 b * C 14 a)) = C 13 a * C 14 b - C 13 b * C 14 a ∧ (1 ≤ C 14 a * C 14 b ∧ C 14 a * C 14 b ≤ 1000000000000000000) ∧ (-2000000000000000000 ≤ C 13 a * C 14 b - C 13 b * C 14 a ∧ C 13 a * C 14 b - C 13 b * C 14 a ≤ 2000000000000000000) := by
  unfold tu_L at ha hb
  have p1 := xm_mul9 (p := C 13 a) (q := C 14 b) (by omega) (by omega) (by omega) (by omega)
  have p2 := xm_mul9 (p := C 13 b) (q := C 14 a) (by omega) (by omega) (by omega) (by omega)
  have p3 := xm_mul9 (p := C 14 a) (q := C 14 b) (by omega) (by omega) (by omega) (by omega)
  have p4 := Int.mul_pos (show 0 < C 14 a by omega) (show 0 < C 14 b by omega)
  have e1 := xa_w64_id (n := C 13 a * C 14 b) (by omega) (by omega)
  have e2 := xa_w64_id (n := C 13 b * C 14 a) (by omega) (by omega)
  exact ⟨⟨e1, e2⟩, xa_w64_id (by omega) (by omega), by rw [e1, e2]; exact xa_w64_id (by omega) (by omega), ⟨by omega, by omega⟩, by omega, by omega⟩
theorem tu_at {C N : xa_M} {a : Int} (h : tu_R C N) (ha : 0 ≤ a ∧ a < 10) (hn : ¬ C 14 a = 0) : N 77 a = 1 ∧ C 13 a = N 75 a ∧ C 14 a = N 76 a := by
  rcases h a ha.1 ha.2 with ⟨-, e⟩ | ⟨e1, e2, -⟩
  · exact absurd e hn
  · exact ⟨e1, e2⟩
