-- turns: what both sides answer
set_option maxRecDepth 20000
theorem cx_60a {b : Bool} {A : Nat → Nat} {h0 : g_H} {d : Nat} {M : xa_M} {post : Option xa_V → xa_M → Prop} {l1 u1 x1 : Int} (h1 : (0 : Int) ≤ M 48 1) (k : ∀ M1 : xa_M, (∀ (q : Nat) (j : Int), ¬ (q = 48 ∨ q = 49) → M1 q j = M q j) → (0 : Int) ≤ M1 48 1 → post none M1) : xa_C (xl_I b) A h0 (d + 2) 60 [(2, 48, 0, 0, 0), (1, 0, l1, u1, x1)] M post :=
  cx_60_48 h1 (fun _ => k M (fun _ _ _ => rfl) h1) (fun h => k _ (fun q j hq => (xa_up_ne (by omega)).trans (xa_up_ne (by omega))) (by
    rw [xa_up_eq, xa_w32_id (by omega) (by omega)]
    omega))
/-- its numbers are too long to show, on the other side -/
def tw_L (N : xa_M) (a : Int) : Prop := 1000000000 < ((N 75 a).natAbs : Int) ∨ 1000000000 < N 76 a
theorem tw_s3 {N : xa_M} {v w a : Int} {T : xa_M → Int → Prop} (hs : (v = w ∧ ¬ w = 0) ∨ (w = 0 ∧ N 77 a = 0 ∧ v = -2) ∨ (w = 0 ∧ N 77 a = 1 ∧ v = 0)) (hv : ¬ v = 0) : (¬ w = 0 ∧ v = w) ∨ (w = 0 ∧ N 77 a = 0 ∧ v = -2) ∨ (w = 0 ∧ N 77 a = 1 ∧ T N v) := by
  rcases hs with ⟨x, y⟩ | ⟨x, y, z⟩ | ⟨-, -, z⟩
  · exact Or.inl ⟨y, x⟩
  · exact Or.inr (Or.inl ⟨x, y, z⟩)
  · exact absurd z hv
/-- the answer that fairState gives -/
def tw_fT (a : Int) (N : xa_M) (v : Int) : Prop := (tw_L N a ∧ v = -5) ∨ (¬ tw_L N a ∧ v = 0)
theorem tw_fT_one {a : Int} {N N' : xa_M} {v v' : Int} (e1 : N' 75 a = N 75 a) (e2 : N' 76 a = N 76 a) (h : tw_fT a N v) (h' : tw_fT a N' v') : v = v' := by
  unfold tw_fT tw_L at h h'
  rw [e1, e2] at h'
  rcases h with ⟨a1, a2⟩ | ⟨a1, a2⟩
  · rcases h' with ⟨-, b2⟩ | ⟨b1, -⟩
    · omega
    · exact absurd a1 b1
  · rcases h' with ⟨b1, -⟩ | ⟨-, b2⟩
    · exact absurd b1 a1
    · omega
theorem tw_f5 {a v : Int} {N : xa_M} (h : tw_fT a N v) (hv : v < 0) : tw_L N a := by
  rcases h with ⟨h, -⟩ | ⟨-, e⟩
  · exact h
  · omega
theorem tw_f0 {a v : Int} {N : xa_M} (h : tw_fT a N v) (hv : 0 ≤ v) : ¬ tw_L N a := by
  rcases h with ⟨-, e⟩ | ⟨h, -⟩
  · omega
  · exact h
theorem tw_s5 {N : xa_M} {v w a : Int} {T : xa_M → Int → Prop} (hs : (v = w ∧ ¬ w = 0) ∨ (w = 0 ∧ N 77 a = 0 ∧ v = -2) ∨ (w = 0 ∧ N 77 a = 1 ∧ T N v)) (hw : w = 0) (h7 : ¬ N 77 a = 0) : T N v := by
  rcases hs with ⟨-, x⟩ | ⟨-, x, -⟩ | ⟨-, -, x⟩
  · exact absurd hw x
  · exact absurd x h7
  · exact x
/-- shown, by the search's numbers -/
theorem tw_H {N0 C1 : xa_M} {a v : Int} (h : tu_H N0 a v C1) : tw_A N0 a v (tw_fT a) := by
  rcases h with ⟨h1, h2⟩ | ⟨h1, h2⟩
  · exact tw_A_of h2 (fun e => absurd e h1)
  · refine tw_A_to h1 (fun N _ _ _ e _ => ?_)
    unfold tw_fT tw_L
    unfold tu_L at h2
    rw [e.1, e.2] at h2
    exact h2
/-- bits of those that are so -/
theorem tw_b1 {P : Int → Prop} {a x : Int} (a0 : 0 ≤ a) (hP : P a) (hx : x = wd_b P a.toNat) : xa_ib 4 x (xa_ib 6 1 a) = wd_b P (a + 1).toNat := by
  have e : ((a.toNat : Nat) : Int) = a := Int.toNat_of_nonneg a0
  rw [show (a + 1).toNat = a.toNat + 1 by omega, wd_b1 (by rw [e]; exact hP), e, hx]
theorem tw_b0 {P : Int → Prop} {a x : Int} (a0 : 0 ≤ a) (hP : ¬ P a) (hx : x = wd_b P a.toNat) : x = wd_b P (a + 1).toNat := by
  have e : ((a.toNat : Nat) : Int) = a := Int.toNat_of_nonneg a0
  rw [show (a + 1).toNat = a.toNat + 1 by omega, wd_b0 (by rw [e]; exact hP), hx]
theorem tw_bz {P : Int → Prop} {a x : Int} (a0 : 0 ≤ a) (hP : ¬ P a) (hx : x = wd_b P a.toNat) : xa_ib 4 x 0 = wd_b P (a + 1).toNat := by
  have r := wd_b_r (P := P) a.toNat
  rw [bk_or0 (by omega) (by omega)]
  exact tw_b0 a0 hP hx
/-- what turning answers -/
def tw_61 (N0 : xa_M) (v : Int) : Prop := ∃ (w : Int) (N : xa_M), tw_F N0 (-1) w N ∧ ((¬ w = 0 ∧ v = w) ∨ (w = 0 ∧ v = wd_b (fun a => ¬ N 77 a = 0) 10))
theorem tw_61_one {N0 : xa_M} {v v' : Int} (hr : xm_rng N0) (h : tw_61 N0 v) (h' : tw_61 N0 v') : v = v' := by
  obtain ⟨w, N, hF, h2⟩ := h
  obtain ⟨w', N', hF', h3⟩ := h'
  obtain ⟨rfl, hag⟩ := tw_F_det hr hF hF'
  rcases h2 with ⟨e1, e2⟩ | ⟨rfl, e2⟩
  · rcases h3 with ⟨-, e3⟩ | ⟨e3, -⟩
    · omega
    · exact absurd e3 e1
  · rcases h3 with ⟨e3, -⟩ | ⟨-, e3⟩
    · exact absurd rfl e3
    · obtain ⟨-, h7⟩ := hag (by decide)
      rw [e2, e3]
      exact wd_b_e 10 (fun p hp => by
        obtain ⟨-, k2, -⟩ := h7 (p : Int) (by omega) (by omega)
        show ¬ N 77 (p : Int) = 0 ↔ ¬ N' 77 (p : Int) = 0
        rw [k2])
theorem tw_61_of {N0 C1 : xa_M} {w v : Int} (hV : tu_V (-1) N0 w C1) (h : (¬ w = 0 ∧ v = w) ∨ (w = 0 ∧ v = wd_b (fun a => ¬ C1 14 a = 0) 10)) : tw_61 N0 v := by
  obtain ⟨N, h1, h2⟩ := hV
  refine ⟨w, N, ⟨N0, xm_cor_r, h1⟩, ?_⟩
  rcases h with h | ⟨rfl, h⟩
  · exact Or.inl h
  · refine Or.inr ⟨rfl, h.trans (wd_b_e 10 (fun p hp => ?_))⟩
    have hz := tu_z (h2 (by decide)) (show (0 : Int) ≤ (p : Int) by omega) (by omega)
    show ¬ C1 14 (p : Int) = 0 ↔ ¬ N 77 (p : Int) = 0
    omega
/-- the meshes below m, each left out -/
def tw_J (N0 : xa_M) (m : Int) (T : Int → Int) : Prop := ∀ j, 0 ≤ j → j < m → (T j = 0 ∨ T j = -3) ∧ ∃ N, tw_F N0 j (T j) N
theorem tw_Js {N0 N : xa_M} {m w : Int} {T : Int → Int} (h : tw_J N0 m T) (hw : w = 0 ∨ w = -3) (hF : tw_F N0 m w N) : ∃ T', tw_J N0 (m + 1) T' ∧ T' m = w ∧ ∀ j, 0 ≤ j → j < m → T' j = T j := by
  refine ⟨fun j => if j = m then w else T j, fun j j0 j1 => ?_, if_pos rfl, fun j j0 j1 => if_neg (by omega)⟩
  by_cases e : j = m
  · subst e
    show ((if j = j then w else T j) = 0 ∨ (if j = j then w else T j) = -3) ∧ ∃ N, tw_F N0 j (if j = j then w else T j) N
    rw [if_pos rfl]
    exact ⟨hw, N, hF⟩
  · show ((if j = m then w else T j) = 0 ∨ (if j = m then w else T j) = -3) ∧ ∃ N, tw_F N0 j (if j = m then w else T j) N
    rw [if_neg e]
    exact h j j0 (by omega)
/-- what jams answers -/
def tw_62 (N0 : xa_M) (v : Int) : Prop := ∃ (w : Int) (N : xa_M), tw_F N0 (-1) w N ∧ ((¬ w = -3 ∧ v = w) ∨ (w = -3 ∧ ∃ (c : Int) (T : Int → Int), 0 ≤ c ∧ c ≤ N0 60 6 ∧ tw_J N0 c T ∧ ((c = N0 60 6 ∧ v = wd_b (fun j => T j = 0) c.toNat) ∨ (c < N0 60 6 ∧ (∃ N, tw_F N0 c (-5) N) ∧ v = -5))))
theorem tw_J_one {N0 : xa_M} {c c' : Int} {T T' : Int → Int} (hr : xm_rng N0) (h : tw_J N0 c T) (h' : tw_J N0 c' T') : ∀ j, 0 ≤ j → j < c → j < c' → T j = T' j := by
  intro j j0 j1 j2
  obtain ⟨-, N, hF⟩ := h j j0 j1
  obtain ⟨-, N', hF'⟩ := h' j j0 j2
  exact (tw_F_det hr hF hF').1.symm
theorem tw_62_one {N0 : xa_M} {v v' : Int} (hr : xm_rng N0) (h : tw_62 N0 v) (h' : tw_62 N0 v') : v = v' := by
  obtain ⟨w, N, hF, h2⟩ := h
  obtain ⟨w', N', hF', h3⟩ := h'
  obtain ⟨rfl, -⟩ := tw_F_det hr hF hF'
  rcases h2 with ⟨e1, e2⟩ | ⟨e1, c, T, c0, c1, hJ, h4⟩
  · rcases h3 with ⟨-, e3⟩ | ⟨e3, -⟩
    · omega
    · exact absurd e3 e1
  · rcases h3 with ⟨e3, -⟩ | ⟨-, c', T', d0, d1, hJ', h5⟩
    · exact absurd e1 e3
    · have hT := tw_J_one hr hJ hJ'
      rcases h4 with ⟨rfl, e2⟩ | ⟨e1, ⟨N1, hN1⟩, e2⟩
      · rcases h5 with ⟨rfl, e3⟩ | ⟨e3, ⟨N2, hN2⟩, -⟩
        · rw [e2, e3]
          exact wd_b_e _ (fun p hp => by
            show T (p : Int) = 0 ↔ T' (p : Int) = 0
            rw [hT (p : Int) (by omega) (by omega) (by omega)])
        · exfalso
          obtain ⟨k1, N3, hN3⟩ := hJ c' d0 e3
          have := (tw_F_det hr hN3 hN2).1
          omega
      · rcases h5 with ⟨rfl, e3⟩ | ⟨-, -, e3⟩
        · exfalso
          obtain ⟨k1, N3, hN3⟩ := hJ' c c0 e1
          have := (tw_F_det hr hN3 hN1).1
          omega
        · omega
theorem ct_stateOfF {A : Nat → Nat} {h0 : g_H} {d : Nat} {M : xa_M} {post : Option xa_V → xa_M → Prop} {l1 u1 : Int} {a : Int} (hI : xm_Inv M) (ha0 : 0 ≤ a) (ha1 : a ≤ 9) (k : ∀ (v w : Int) (M1 : xa_M), xm_cor M M1 → xm_trn M1 → xm_FT (-1) M w M1 → ((w = 0 ∨ w = -3 ∨ w = -5) ∧ v ≤ 0) → (0 ≤ v → w = 0 ∧ M1 77 a = 1 ∧ 1 ≤ M1 76 a) → ((v = w ∧ ¬ w = 0) ∨ (w = 0 ∧ M1 77 a = 0 ∧ v = -2) ∨ (w = 0 ∧ M1 77 a = 1 ∧ v = 0)) → post (some (0, 0, -5, 0, v)) M1) : xa_C xm_I A h0 (d + 5) 226 [(2, 60, 0, 0, 0), (0, 0, l1, u1, a)] M post := by
  refine xa_C_arg [(2, 60, 0, 0, 0), (0, 0, 0, 9, a)] (xa_svR (xa_svI (fun _ _ _ _ => by omega) xa_sv0)) (xa_C_wk ?_)
  refine xa_meth (Q0 := (3, 1, false, 0, 0, 12)) (by decide +kernel) ⟨rfl, rfl⟩ (full := s_c_226) rfl rfl ?_
  intro hM hv Q hgo
  refine hgo.1 18 [] 0 _ _ _ ?_
  show xa_C xm_I A h0 _ 227 [(2, 60, 0, 0, 0), (0, 0, (-1), (-1), (-1))] M _
  refine xa_C_mok (ct_findTurns (xm_Inv_cor xm_cor_r hI) (fun v1 M1 hv1 hc1 hT1 hF1 hM1 => ?_))
  refine And.intro ?_ ?_
  · intro (c2 : 0 ≤ v1)
    refine And.intro ?_ ?_
    · intro (c3 : (M1 77 a) = 0)
      show xa_wk post (some (0, 0, (-2), (-2), (-2))) M1
      have t := xm_t77 hM1 a ha0 (by omega)
      exact xa_wkI (-2) rfl (fun _ _ => by omega) (k (-2) v1 M1 hc1 hT1 hF1 (by omega) (fun _ => ⟨by omega, by omega, by first | exact hT1 a ha0 (by omega) (by omega) | omega⟩) (by omega))
    · intro (c3 : ¬ (M1 77 a) = 0)
      show xa_wk post (some (0, 0, 0, 0, 0)) M1
      have t := xm_t77 hM1 a ha0 (by omega)
      exact xa_wkI 0 rfl (fun _ _ => by omega) (k 0 v1 M1 hc1 hT1 hF1 (by omega) (fun _ => ⟨by omega, by omega, by first | exact hT1 a ha0 (by omega) (by omega) | omega⟩) (by omega))
  · intro (c2 : v1 < 0)
    show xa_wk post (some (0, 0, (-5), 0, v1)) M1
    have t := xm_t77 hM1 a ha0 (by omega)
    exact xa_wkI v1 rfl (fun _ _ => by omega) (k v1 v1 M1 hc1 hT1 hF1 (by omega) (fun _ => ⟨by omega, by omega, by first | exact hT1 a ha0 (by omega) (by omega) | omega⟩) (by omega))

theorem ct_fairStateF {A : Nat → Nat} {h0 : g_H} {d : Nat} {M : xa_M} {post : Option xa_V → xa_M → Prop} {l1 u1 : Int} {a : Int} (hI : xm_Inv M) (ha0 : 0 ≤ a) (ha1 : a ≤ 9) (k : ∀ (v w : Int) (M1 : xa_M), xm_cor M M1 → xm_trn M1 → xm_FT (-1) M w M1 → ((w = 0 ∨ w = -3 ∨ w = -5) ∧ v ≤ 0) → (0 ≤ v → w = 0 ∧ M1 77 a = 1 ∧ 1 ≤ M1 76 a ∧ M1 76 a ≤ 1000000000 ∧ ((M1 75 a).natAbs : Int) ≤ 1000000000) → ((v = w ∧ ¬ w = 0) ∨ (w = 0 ∧ M1 77 a = 0 ∧ v = -2) ∨ (w = 0 ∧ M1 77 a = 1 ∧ tw_fT a M1 v)) → post (some (0, 0, -5, 0, v)) M1) : xa_C xm_I A h0 (d + 6) 273 [(2, 60, 0, 0, 0), (0, 0, l1, u1, a)] M post := by
  refine xa_C_arg [(2, 60, 0, 0, 0), (0, 0, 0, 9, a)] (xa_svR (xa_svI (fun _ _ _ _ => by omega) xa_sv0)) (xa_C_wk ?_)
  refine xa_meth (Q0 := (3, 1, false, 0, 0, 12)) (by decide +kernel) ⟨rfl, rfl⟩ (full := s_c_273) rfl rfl ?_
  intro hM hv Q hgo
  refine hgo.1 26 [] 0 _ _ _ ?_
  show xa_C xm_I A h0 _ 226 [(2, 60, 0, 0, 0), (0, 0, 0, 9, a)] M _
  refine xa_C_mok (ct_stateOfF (xm_Inv_cor xm_cor_r hI) (by omega) (by omega) (fun v1 w1 M1 hc1 hT1 hF1 hw1 hv1 hs1 hM1 => ?_))
  refine And.intro ?_ ?_
  · intro (c2 : 0 ≤ v1)
    show xa_C xm_I A h0 _ 56 [(1, 0, (-1000000000000000), 1000000000000000, M1 75 a)] M1 _
    refine ct_absb 1000000000000000 (by decide) (by decide) (by decide) (fun a3 ea3 => ?_)
    refine And.intro ?_ ?_
    · intro (c4 : 1000000000 < a3)
      show xa_wk post (some (0, 0, (-5), (-5), (-5))) M1
      exact xa_wkI (-5) rfl (fun _ _ => by omega) (k (-5) w1 M1 hc1 hT1 hF1 (by omega) (fun _ => ⟨by omega, by omega, by omega, by omega, by omega⟩) (by unfold tw_fT tw_L; omega))
    · intro (c4 : a3 ≤ 1000000000)
      refine And.intro ?_ ?_
      · intro (c5 : (M1 76 a) ≤ 1000000000)
        show xa_wk post (some (0, 0, 0, 0, 0)) M1
        exact xa_wkI 0 rfl (fun _ _ => by omega) (k 0 w1 M1 hc1 hT1 hF1 (by omega) (fun _ => ⟨by omega, by omega, by omega, by omega, by omega⟩) (by unfold tw_fT tw_L; omega))
      · intro (c5 : 1000000000 < (M1 76 a))
        show xa_wk post (some (0, 0, (-5), (-5), (-5))) M1
        exact xa_wkI (-5) rfl (fun _ _ => by omega) (k (-5) w1 M1 hc1 hT1 hF1 (by omega) (fun _ => ⟨by omega, by omega, by omega, by omega, by omega⟩) (by unfold tw_fT tw_L; omega))
  · intro (c2 : v1 < 0)
    show xa_wk post (some (0, 0, (-5), 0, v1)) M1
    exact xa_wkI v1 rfl (fun _ _ => by omega) (k v1 w1 M1 hc1 hT1 hF1 (by omega) (fun _ => ⟨by omega, by omega, by omega, by omega, by omega⟩) (by unfold tw_fT tw_L; omega))

theorem ms_turnV {A : Nat → Nat} {h0 : g_H} {d : Nat} {M : xa_M} {post : Option xa_V → xa_M → Prop} {l1 u1 : Int} {a : Int} (hI : xm_Inv M) (k : ∀ (o : Option xa_V) (M1 : xa_M), (∃ lo hi n, o = some (0, 0, lo, hi, n) ∧ tw_A M a n (fun _ v => v = 0)) → xm_cor M M1 → post o M1) : xa_C xm_I A h0 (d + 6) 225 [(2, 60, 0, 0, 0), (0, 0, l1, u1, a)] M post := by
  refine xa_C_arg [(2, 60, 0, 0, 0), (0, 0, (-2147483648), 2147483647, a)] (xa_svR (xa_svI (fun _ _ _ _ => by omega) xa_sv0)) ?_
  refine xa_meth (Q0 := (3, 1, false, 0, 0, 12)) (by decide +kernel) ⟨rfl, rfl⟩ (full := s_c_225) rfl rfl ?_
  intro hM hv Q hgo
  refine hgo.1 31 [] 0 _ _ _ ?_
  show xa_C xm_I A h0 _ 215 [(0, 0, (-2147483648), 2147483647, a)] (xa_up M 60 21 0) _
  refine ct_isAxle ?_ ?_
  · intro (i1 : 0 ≤ a ∧ a ≤ 9)
    show xa_C xm_I A h0 _ 226 [(2, 60, 0, 0, 0), (0, 0, (-2147483648), 2147483647, a)] (xa_up M 60 21 0) _
    refine xa_C_mok (ct_stateOfF (xm_Inv_cor (xm_cor_f (by omega) xm_cor_r) hI) (by omega) (by omega) (fun v2 w2 M2 hc2 hT2 hF2 hw2 hv2 hs2 hM2 => ?_))
    refine And.intro ?_ ?_
    · intro (c3 : 0 ≤ v2)
      refine And.intro (show 0 ≤ a ∧ a < 10 by omega) ?_
      refine And.intro (show 0 ≤ a ∧ a < 10 by omega) ?_
      show xa_C xm_I A h0 _ 230 [(2, 60, 0, 0, 0), (1, 0, (-1000000000000000), 1000000000000000, M2 75 a), (1, 0, 0, 1000000000000000, M2 76 a)] (xa_up M2 60 20 0) _
      refine ct_tellPart (n := 0) (by first | rfl | (simp [xa_up]; done)) (by decide) (by decide) (by decide) (by omega) (fun g4 eg4 pg4 qg4 => ?_)
      show post (some (0, 0, 0, 0, 0)) (xa_up (xa_up (xa_up (xa_up (xa_up M2 60 20 0) 74 0 ((M2 75 a).tdiv g4)) 60 20 1) 74 1 ((M2 76 a).tdiv g4)) 60 20 2)
      exact k _ _ ⟨_, _, _, rfl, Or.inr ⟨i1, w2, M2, ⟨_, xm_cor_f (by omega) xm_cor_r, hF2⟩, Or.inr (Or.inr ⟨by omega, by omega, rfl⟩)⟩⟩ (xm_cor_f (by omega) (xm_cor_a rfl (xm_cor_f (by omega) (xm_cor_a rfl (xm_cor_f (by omega) (xm_cor_t (xm_cor_f (by omega) xm_cor_r) hc2))))))
    · intro (c3 : v2 < 0)
      show post (some (0, 0, (-5), 0, v2)) M2
      exact k _ _ ⟨_, _, _, rfl, Or.inr ⟨i1, w2, M2, ⟨_, xm_cor_f (by omega) xm_cor_r, hF2⟩, tw_s3 (T := fun _ v => v = 0) hs2 (by omega)⟩⟩ (xm_cor_t (xm_cor_f (by omega) xm_cor_r) hc2)
  · intro (i1 : ¬ (0 ≤ a ∧ a ≤ 9))
    show post (some (0, 0, (-1), (-1), (-1))) (xa_up M 60 21 0)
    exact k _ _ ⟨_, _, _, rfl, Or.inl ⟨i1, rfl⟩⟩ (xm_cor_f (by omega) xm_cor_r)

theorem ms_turningV {A : Nat → Nat} {h0 : g_H} {d : Nat} {M : xa_M} {post : Option xa_V → xa_M → Prop} (hI : xm_Inv M) (k : ∀ (o : Option xa_V) (M1 : xa_M), (∃ lo hi n, o = some (0, 0, lo, hi, n) ∧ tw_61 M n) → xm_cor M M1 → post o M1) : xa_C xm_I A h0 (d + 5) 232 [(2, 60, 0, 0, 0)] M post := by
  refine xa_meth (Q0 := (5, 1, false, 0, 0, 12)) (by decide +kernel) ⟨rfl, rfl⟩ (full := s_c_232) rfl rfl ?_
  intro hM hv Q hgo
  have loop : ∀ (n : Nat) (a b c : Int) (M1 : xa_M), 0 ≤ a → a ≤ 10 → xm_cor M M1 → b = wd_b (fun a => ¬ M1 77 a = 0) a.toNat → (∀ v, v = wd_b (fun a => ¬ M1 77 a = 0) 10 → tw_61 M v) → 10 - a < (n : Int) → Q 24 [(4, (0, 0, 0, 10, a)), (3, (0, 0, (-2147483648), 2147483647, c)), (2, (0, 0, (-2147483648), 2147483647, b)), (0, (2, 60, 0, 0, 0))] [] M1 := by
    intro n
    induction n with
    | zero => intro a b c M1 h1 h2 hc hb hS hms; clear hb hS; omega
    | succ n ih =>
      intro a b c M1 h1 h2 hc hb hS hms
      refine hgo.1 40 [24] 24 _ _ _ ?_
      refine And.intro ?_ ?_
      · intro (c1 : 10 ≤ a)
        show xa_C xm_I A h0 _ 231 [(2, 60, 0, 0, 0), (1, 0, (-2147483648), 2147483647, c)] (xa_up M1 60 20 0) _
        refine ct_tell (n := 0) (by first | rfl | (simp [xa_up]; done) | omega) (by omega) (by omega) ?_
        show post (some (0, 0, (-2147483648), 2147483647, b)) (xa_up (xa_up (xa_up M1 60 20 0) 74 0 c) 60 20 1)
        exact k _ _ ⟨_, _, _, rfl, hS _ (by rw [hb, show a.toNat = 10 by omega])⟩ (xm_cor_f (by omega) (xm_cor_a rfl (xm_cor_f (by omega) hc)))
      · intro (c1 : a < 10)
        refine And.intro (show 0 ≤ a ∧ a < 10 by omega) ?_
        refine And.intro ?_ ?_
        · intro (c2 : (M1 77 a) = 0)
          refine And.intro (show 0 ≤ a ∧ a < 10 by omega) ?_
          refine And.intro ?_ ?_
          · intro (c3 : (M1 77 a) = 0)
            show Q 24 [(4, (0, 0, 1, 11, a + 1)), (3, (0, 0, (-2147483648), 2147483647, xa_ib 4 c 0)), (2, (0, 0, (-2147483648), 2147483647, xa_ib 4 b 0)), (0, (2, 60, 0, 0, 0))] [] M1
            refine hgo.2.1 24 _ [(4, (0, 0, 0, 10, a + 1)), (3, (0, 0, (-2147483648), 2147483647, xa_ib 4 c 0)), (2, (0, 0, (-2147483648), 2147483647, xa_ib 4 b 0)), (0, (2, 60, 0, 0, 0))] _ _ (xa_subI rfl rfl (fun _ _ _ _ => by omega) (xa_subI rfl rfl (fun _ _ _ _ => by omega) (xa_subI rfl rfl (fun _ _ _ _ => by omega) (xa_subR rfl xa_sub0)))) ?_
            exact ih (a + 1) (xa_ib 4 b 0) (xa_ib 4 c 0) M1 (by omega) (by omega) hc (tw_bz h1 (fun h => h c2) hb) hS (by omega)
          · intro (c3 : ¬ (M1 77 a) = 0)
            refine And.intro (show 0 ≤ a ∧ a < 10 by omega) ?_
            refine And.intro ?_ ?_
            · intro (c4 : (M1 75 a) ≤ 0)
              show Q 24 [(4, (0, 0, 1, 11, a + 1)), (3, (0, 0, (-2147483648), 2147483647, xa_ib 4 c 0)), (2, (0, 0, (-2147483648), 2147483647, xa_ib 4 b 0)), (0, (2, 60, 0, 0, 0))] [] M1
              refine hgo.2.1 24 _ [(4, (0, 0, 0, 10, a + 1)), (3, (0, 0, (-2147483648), 2147483647, xa_ib 4 c 0)), (2, (0, 0, (-2147483648), 2147483647, xa_ib 4 b 0)), (0, (2, 60, 0, 0, 0))] _ _ (xa_subI rfl rfl (fun _ _ _ _ => by omega) (xa_subI rfl rfl (fun _ _ _ _ => by omega) (xa_subI rfl rfl (fun _ _ _ _ => by omega) (xa_subR rfl xa_sub0)))) ?_
              exact ih (a + 1) (xa_ib 4 b 0) (xa_ib 4 c 0) M1 (by omega) (by omega) hc (tw_bz h1 (fun h => h c2) hb) hS (by omega)
            · intro (c4 : 0 < (M1 75 a))
              show Q 24 [(4, (0, 0, 1, 11, a + 1)), (3, (0, 0, (-2147483648), 2147483647, xa_ib 4 c (xa_ib 6 1 a))), (2, (0, 0, (-2147483648), 2147483647, xa_ib 4 b 0)), (0, (2, 60, 0, 0, 0))] [] M1
              refine hgo.2.1 24 _ [(4, (0, 0, 0, 10, a + 1)), (3, (0, 0, (-2147483648), 2147483647, xa_ib 4 c (xa_ib 6 1 a))), (2, (0, 0, (-2147483648), 2147483647, xa_ib 4 b 0)), (0, (2, 60, 0, 0, 0))] _ _ (xa_subI rfl rfl (fun _ _ _ _ => by omega) (xa_subI rfl rfl (fun _ _ _ _ => by omega) (xa_subI rfl rfl (fun _ _ _ _ => by omega) (xa_subR rfl xa_sub0)))) ?_
              exact ih (a + 1) (xa_ib 4 b 0) (xa_ib 4 c (xa_ib 6 1 a)) M1 (by omega) (by omega) hc (tw_bz h1 (fun h => h c2) hb) hS (by omega)
        · intro (c2 : ¬ (M1 77 a) = 0)
          refine And.intro (show 0 ≤ a ∧ a < 10 by omega) ?_
          refine And.intro ?_ ?_
          · intro (c5 : (M1 77 a) = 0)
            show Q 24 [(4, (0, 0, 1, 11, a + 1)), (3, (0, 0, (-2147483648), 2147483647, xa_ib 4 c 0)), (2, (0, 0, (-2147483648), 2147483647, xa_ib 4 b (xa_ib 6 1 a))), (0, (2, 60, 0, 0, 0))] [] M1
            refine hgo.2.1 24 _ [(4, (0, 0, 0, 10, a + 1)), (3, (0, 0, (-2147483648), 2147483647, xa_ib 4 c 0)), (2, (0, 0, (-2147483648), 2147483647, xa_ib 4 b (xa_ib 6 1 a))), (0, (2, 60, 0, 0, 0))] _ _ (xa_subI rfl rfl (fun _ _ _ _ => by omega) (xa_subI rfl rfl (fun _ _ _ _ => by omega) (xa_subI rfl rfl (fun _ _ _ _ => by omega) (xa_subR rfl xa_sub0)))) ?_
            exact ih (a + 1) (xa_ib 4 b (xa_ib 6 1 a)) (xa_ib 4 c 0) M1 (by omega) (by omega) hc (tw_b1 h1 c2 hb) hS (by omega)
          · intro (c5 : ¬ (M1 77 a) = 0)
            refine And.intro (show 0 ≤ a ∧ a < 10 by omega) ?_
            refine And.intro ?_ ?_
            · intro (c6 : (M1 75 a) ≤ 0)
              show Q 24 [(4, (0, 0, 1, 11, a + 1)), (3, (0, 0, (-2147483648), 2147483647, xa_ib 4 c 0)), (2, (0, 0, (-2147483648), 2147483647, xa_ib 4 b (xa_ib 6 1 a))), (0, (2, 60, 0, 0, 0))] [] M1
              refine hgo.2.1 24 _ [(4, (0, 0, 0, 10, a + 1)), (3, (0, 0, (-2147483648), 2147483647, xa_ib 4 c 0)), (2, (0, 0, (-2147483648), 2147483647, xa_ib 4 b (xa_ib 6 1 a))), (0, (2, 60, 0, 0, 0))] _ _ (xa_subI rfl rfl (fun _ _ _ _ => by omega) (xa_subI rfl rfl (fun _ _ _ _ => by omega) (xa_subI rfl rfl (fun _ _ _ _ => by omega) (xa_subR rfl xa_sub0)))) ?_
              exact ih (a + 1) (xa_ib 4 b (xa_ib 6 1 a)) (xa_ib 4 c 0) M1 (by omega) (by omega) hc (tw_b1 h1 c2 hb) hS (by omega)
            · intro (c6 : 0 < (M1 75 a))
              show Q 24 [(4, (0, 0, 1, 11, a + 1)), (3, (0, 0, (-2147483648), 2147483647, xa_ib 4 c (xa_ib 6 1 a))), (2, (0, 0, (-2147483648), 2147483647, xa_ib 4 b (xa_ib 6 1 a))), (0, (2, 60, 0, 0, 0))] [] M1
              refine hgo.2.1 24 _ [(4, (0, 0, 0, 10, a + 1)), (3, (0, 0, (-2147483648), 2147483647, xa_ib 4 c (xa_ib 6 1 a))), (2, (0, 0, (-2147483648), 2147483647, xa_ib 4 b (xa_ib 6 1 a))), (0, (2, 60, 0, 0, 0))] _ _ (xa_subI rfl rfl (fun _ _ _ _ => by omega) (xa_subI rfl rfl (fun _ _ _ _ => by omega) (xa_subI rfl rfl (fun _ _ _ _ => by omega) (xa_subR rfl xa_sub0)))) ?_
              exact ih (a + 1) (xa_ib 4 b (xa_ib 6 1 a)) (xa_ib 4 c (xa_ib 6 1 a)) M1 (by omega) (by omega) hc (tw_b1 h1 c2 hb) hS (by omega)
  refine hgo.1 20 [24] 0 _ _ _ ?_
  show xa_C xm_I A h0 _ 227 [(2, 60, 0, 0, 0), (0, 0, (-1), (-1), (-1))] (xa_up M 60 21 0) _
  refine xa_C_mok (ct_findTurns (xm_Inv_cor (xm_cor_f (by omega) xm_cor_r) hI) (fun v1 M1 hv1 hc1 hT1 hF1 hM1 => ?_))
  refine And.intro ?_ ?_
  · intro (c2 : 0 ≤ v1)
    show Q 24 [(4, (0, 0, 0, 0, 0)), (3, (0, 0, 0, 0, 0)), (2, (0, 0, 0, 0, 0)), (1, (0, 0, (-5), 0, v1)), (0, (2, 60, 0, 0, 0))] [] M1
    refine hgo.2.1 24 _ [(4, (0, 0, 0, 10, 0)), (3, (0, 0, (-2147483648), 2147483647, 0)), (2, (0, 0, (-2147483648), 2147483647, 0)), (0, (2, 60, 0, 0, 0))] _ _ (xa_subI rfl rfl (fun _ _ _ _ => by omega) (xa_subI rfl rfl (fun _ _ _ _ => by omega) (xa_subI rfl rfl (fun _ _ _ _ => by omega) (xa_subR rfl xa_sub0)))) ?_
    exact loop 11 0 0 0 M1 (by omega) (by omega) (xm_cor_t (xm_cor_f (by omega) xm_cor_r) hc1) rfl (fun v e => ⟨v1, M1, ⟨_, xm_cor_f (by omega) xm_cor_r, hF1⟩, Or.inr ⟨by omega, e⟩⟩) (by omega)
  · intro (c2 : v1 < 0)
    show post (some (0, 0, (-5), 0, v1)) M1
    exact k _ _ ⟨_, _, _, rfl, ⟨v1, M1, ⟨_, xm_cor_f (by omega) xm_cor_r, hF1⟩, Or.inl ⟨by omega, rfl⟩⟩⟩ (xm_cor_t (xm_cor_f (by omega) xm_cor_r) hc1)

theorem ms_jamsV {A : Nat → Nat} {h0 : g_H} {d : Nat} {M : xa_M} {post : Option xa_V → xa_M → Prop} (hI : xm_Inv M) (k : ∀ (o : Option xa_V) (M1 : xa_M), (∃ lo hi n, o = some (0, 0, lo, hi, n) ∧ tw_62 M n) → xm_cor M M1 → post o M1) : xa_C xm_I A h0 (d + 5) 233 [(2, 60, 0, 0, 0)] M post := by
  refine xa_meth (Q0 := (5, 1, false, 0, 0, 12)) (by decide +kernel) ⟨rfl, rfl⟩ (full := s_c_233) rfl rfl ?_
  intro hM hv Q hgo
  have b6 := xm_f6 hM
  have loop : ∀ (w : Int) (Nw : xa_M), w = -3 → tw_F M (-1) w Nw → ∀ (n : Nat) (m b : Int) (M1 : xa_M) (T : Int → Int), 0 ≤ m → m ≤ 16 → m ≤ M 60 6 → xm_cor M M1 → tw_J M m T → b = wd_b (fun j => T j = 0) m.toNat → 16 - m < (n : Int) → Q 31 [(3, (0, 0, 0, 16, m)), (2, (0, 0, (-2147483648), 2147483647, b)), (0, (2, 60, 0, 0, 0))] [] M1 := by
    intro w Nw hw3 hFw n
    induction n with
    | zero => intro m b M1 T h1 h2 hn hc hJ hb hms; clear hJ hb; omega
    | succ n ih =>
      intro m b M1 T h1 h2 hn hc hJ hb hms
      have e6 := xm_corf hc 6 (by omega)
      refine hgo.1 27 [31] 31 _ _ _ ?_
      refine And.intro ?_ ?_
      · intro (c1 : (M1 60 6) ≤ m)
        show post (some (0, 0, (-2147483648), 2147483647, b)) M1
        exact k _ _ ⟨_, _, _, rfl, ⟨w, Nw, hFw, Or.inr ⟨hw3, m, T, h1, hn, hJ, Or.inl ⟨by omega, hb⟩⟩⟩⟩ hc
      · intro (c1 : m < (M1 60 6))
        show xa_C xm_I A h0 _ 227 [(2, 60, 0, 0, 0), (0, 0, 0, 16, m)] M1 _
        refine xa_C_mok (ct_findTurns (xm_Inv_cor hc hI) (fun v2 M2 hv2 hc2 hT2 hF2 hM2 => ?_))
        refine And.intro ?_ ?_
        · intro (c3 : ¬ v2 = (-5))
          refine And.intro ?_ ?_
          · intro (c4 : ¬ v2 = 0)
            show Q 31 [(3, (0, 0, 1, 17, m + 1)), (2, (0, 0, (-2147483648), 2147483647, xa_ib 4 b 0)), (4, (0, 0, (-5), 0, v2)), (0, (2, 60, 0, 0, 0))] [] M2
            refine hgo.2.1 31 _ [(3, (0, 0, 0, 16, m + 1)), (2, (0, 0, (-2147483648), 2147483647, xa_ib 4 b 0)), (0, (2, 60, 0, 0, 0))] _ _ (xa_subI rfl rfl (fun _ _ _ _ => by omega) (xa_subI rfl rfl (fun _ _ _ _ => by omega) (xa_subR rfl xa_sub0))) ?_
            have hv : v2 = -3 := by omega
            rw [hv] at hF2
            obtain ⟨T', t1, t2, t3⟩ := tw_Js hJ (by omega) ⟨M1, hc, hF2⟩
            exact ih (m + 1) (xa_ib 4 b 0) _ T' (by omega) (by omega) (by omega) (xm_cor_t hc hc2) t1 (tw_bz h1 (fun h => by have : T' m = 0 := h; omega) (hb.trans (wd_b_e _ (fun p hp => by show T (p : Int) = 0 ↔ T' (p : Int) = 0; rw [t3 (p : Int) (by omega) (by omega)])))) (by omega)
          · intro (c4 : v2 = 0)
            show Q 31 [(3, (0, 0, 1, 17, m + 1)), (2, (0, 0, (-2147483648), 2147483647, xa_ib 4 b (xa_ib 6 1 m))), (4, (0, 0, (-5), 0, v2)), (0, (2, 60, 0, 0, 0))] [] M2
            refine hgo.2.1 31 _ [(3, (0, 0, 0, 16, m + 1)), (2, (0, 0, (-2147483648), 2147483647, xa_ib 4 b (xa_ib 6 1 m))), (0, (2, 60, 0, 0, 0))] _ _ (xa_subI rfl rfl (fun _ _ _ _ => by omega) (xa_subI rfl rfl (fun _ _ _ _ => by omega) (xa_subR rfl xa_sub0))) ?_
            have hv : v2 = 0 := by omega
            rw [hv] at hF2
            obtain ⟨T', t1, t2, t3⟩ := tw_Js hJ (by omega) ⟨M1, hc, hF2⟩
            exact ih (m + 1) (xa_ib 4 b (xa_ib 6 1 m)) _ T' (by omega) (by omega) (by omega) (xm_cor_t hc hc2) t1 (tw_b1 h1 t2 (hb.trans (wd_b_e _ (fun p hp => by show T (p : Int) = 0 ↔ T' (p : Int) = 0; rw [t3 (p : Int) (by omega) (by omega)])))) (by omega)
        · intro (c3 : v2 = (-5))
          show post (some (0, 0, (-5), 0, v2)) M2
          exact k _ _ ⟨_, _, _, rfl, ⟨w, Nw, hFw, Or.inr ⟨hw3, m, T, h1, hn, hJ, Or.inr ⟨by omega, ⟨_, M1, hc, (by rw [← c3]; exact hF2)⟩, c3⟩⟩⟩⟩ (xm_cor_t hc hc2)
  refine hgo.1 22 [31] 0 _ _ _ ?_
  show xa_C xm_I A h0 _ 227 [(2, 60, 0, 0, 0), (0, 0, (-1), (-1), (-1))] (xa_up M 60 21 0) _
  refine xa_C_mok (ct_findTurns (xm_Inv_cor (xm_cor_f (by omega) xm_cor_r) hI) (fun v1 M1 hv1 hc1 hT1 hF1 hM1 => ?_))
  refine And.intro ?_ ?_
  · intro (c2 : v1 ≤ (-3))
    refine And.intro ?_ ?_
    · intro (c3 : ¬ v1 = (-5))
      show Q 31 [(3, (0, 0, 0, 0, 0)), (2, (0, 0, 0, 0, 0)), (1, (0, 0, (-5), 0, v1)), (0, (2, 60, 0, 0, 0))] [] M1
      refine hgo.2.1 31 _ [(3, (0, 0, 0, 16, 0)), (2, (0, 0, (-2147483648), 2147483647, 0)), (0, (2, 60, 0, 0, 0))] _ _ (xa_subI rfl rfl (fun _ _ _ _ => by omega) (xa_subI rfl rfl (fun _ _ _ _ => by omega) (xa_subR rfl xa_sub0))) ?_
      exact loop v1 M1 (by omega) ⟨_, xm_cor_f (by omega) xm_cor_r, hF1⟩ 17 0 0 _ (fun _ => 0) (by omega) (by omega) (by omega) (xm_cor_t (xm_cor_f (by omega) xm_cor_r) hc1) (fun j j0 j1 => by omega) rfl (by omega)
    · intro (c3 : v1 = (-5))
      show post (some (0, 0, (-5), 0, v1)) M1
      exact k _ _ ⟨_, _, _, rfl, ⟨v1, M1, ⟨_, xm_cor_f (by omega) xm_cor_r, hF1⟩, Or.inl ⟨by omega, by omega⟩⟩⟩ (xm_cor_t (xm_cor_f (by omega) xm_cor_r) hc1)
  · intro (c2 : (-3) < v1)
    show post (some (0, 0, 0, 0, 0)) M1
    exact k _ _ ⟨_, _, _, rfl, ⟨v1, M1, ⟨_, xm_cor_f (by omega) xm_cor_r, hF1⟩, Or.inl ⟨by omega, by omega⟩⟩⟩ (xm_cor_t (xm_cor_f (by omega) xm_cor_r) hc1)

/-- where more is asked than of an axle -/
def tw_P (P : Prop) (N0 : xa_M) (a v : Int) (T : xa_M → Int → Prop) : Prop := (¬ P ∧ v = -1) ∨ (P ∧ tw_A N0 a v T)
theorem tw_Pn {P : Prop} {N0 : xa_M} {a : Int} {T : xa_M → Int → Prop} (h : ¬ (0 ≤ a ∧ a ≤ 9)) : tw_P P N0 a (-1) T := by
  by_cases c : P
  · exact Or.inr ⟨c, Or.inl ⟨h, rfl⟩⟩
  · exact Or.inl ⟨c, rfl⟩
theorem tw_P_one {P : Prop} {N0 : xa_M} {a v v' : Int} {T T' : xa_M → Int → Prop} (hr : xm_rng N0) (h : tw_P P N0 a v T) (h' : tw_P P N0 a v' T') (hT : ∀ N N', xm_cor N N' → (∀ c, 0 ≤ c → c < 10 → N' 77 c = N 77 c ∧ (N 77 c = 1 → N' 75 c = N 75 c ∧ N' 76 c = N 76 c)) → N 77 a = 1 → N' 75 a = N 75 a → N' 76 a = N 76 a → T N v → T' N' v' → v = v') : v = v' := by
  rcases h with ⟨h1, h2⟩ | ⟨h1, h2⟩
  · rcases h' with ⟨-, h3⟩ | ⟨h3, -⟩
    · omega
    · exact absurd h3 h1
  · rcases h' with ⟨h3, -⟩ | ⟨-, h3⟩
    · exact absurd h1 h3
    · exact tw_A_one hr h2 h3 hT
/-- what show answers -/
def tw_66 (N0 : xa_M) (a y v : Int) : Prop := tw_P (0 ≤ y ∧ y ≤ 2000) N0 a v (tw_fT a)
theorem tw_66_one {N0 : xa_M} {a y v v' : Int} (hr : xm_rng N0) (h : tw_66 N0 a y v) (h' : tw_66 N0 a y v') : v = v' := tw_P_one hr h h' (fun _ _ _ _ _ e1 e2 t t' => tw_fT_one e1 e2 t t')
theorem tw_s4 {N : xa_M} {v v' w a : Int} {T : xa_M → Int → Prop} (hs : (v = w ∧ ¬ w = 0) ∨ (w = 0 ∧ N 77 a = 0 ∧ v = -2) ∨ (w = 0 ∧ N 77 a = 1 ∧ T N v)) (hv : v' = v) : (¬ w = 0 ∧ v' = w) ∨ (w = 0 ∧ N 77 a = 0 ∧ v' = -2) ∨ (w = 0 ∧ N 77 a = 1 ∧ T N v') := by
  subst hv
  rcases hs with ⟨x, y⟩ | h
  · exact Or.inl ⟨y, x⟩
  · exact Or.inr h
theorem ms_showV {A : Nat → Nat} {h0 : g_H} {d : Nat} {M : xa_M} {post : Option xa_V → xa_M → Prop} {l1 u1 l2 u2 : Int} {a b : Int} (hI : xm_Inv M) (k : ∀ (o : Option xa_V) (M1 : xa_M), (∃ lo hi n, o = some (0, 0, lo, hi, n) ∧ tw_66 M a b n) → xm_cor M M1 → post o M1) : xa_C xm_I A h0 (d + 7) 272 [(2, 60, 0, 0, 0), (0, 0, l1, u1, a), (0, 0, l2, u2, b)] M post := by
  refine xa_C_arg [(2, 60, 0, 0, 0), (0, 0, (-2147483648), 2147483647, a), (0, 0, (-2147483648), 2147483647, b)] (xa_svR (xa_svI (fun _ _ _ _ => by omega) (xa_svI (fun _ _ _ _ => by omega) xa_sv0))) ?_
  refine xa_meth (Q0 := (4, 1, false, 0, 0, 12)) (by decide +kernel) ⟨rfl, rfl⟩ (full := s_c_272) rfl rfl ?_
  intro hM hv Q hgo
  refine hgo.1 17 [25] 0 _ _ _ ?_
  show xa_C xm_I A h0 _ 215 [(0, 0, (-2147483648), 2147483647, a)] (xa_up M 60 21 0) _
  refine ct_isAxle ?_ ?_
  · intro (i1 : 0 ≤ a ∧ a ≤ 9)
    show xa_C xm_I A h0 _ 214 [(0, 0, (-2147483648), 2147483647, b), (0, 0, 0, 0, 0), (0, 0, 2000, 2000, 2000)] (xa_up M 60 21 0) _
    refine ct_in ?_ ?_
    · intro (i2 : 0 ≤ b ∧ b ≤ 2000)
      show Q 25 [(0, (2, 60, 0, 0, 0)), (1, (0, 0, (-2147483648), 2147483647, a)), (2, (0, 0, (-2147483648), 2147483647, b))] [] (xa_up M 60 21 0)
      refine hgo.2.1 25 _ [(0, (2, 60, 0, 0, 0)), (1, (0, 0, 0, 9, a)), (2, (0, 0, 0, 2000, b))] _ _ (xa_subR rfl (xa_subI rfl rfl (fun _ _ _ _ => by omega) (xa_subI rfl rfl (fun _ _ _ _ => by omega) xa_sub0))) ?_
      refine hgo.1 34 [] 25 _ _ _ ?_
      show xa_C xm_I A h0 _ 273 [(2, 60, 0, 0, 0), (0, 0, 0, 9, a)] (xa_up M 60 21 0) _
      refine xa_C_mok (ct_fairStateF (xm_Inv_cor (xm_cor_f (by omega) xm_cor_r) hI) (by omega) (by omega) (fun v103 w103 M103 hc103 hT103 hF103 hw103 hv103 hs103 hM103 => ?_))
      refine And.intro ?_ ?_
      · intro (c104 : 0 ≤ v103)
        show xa_C xm_I A h0 _ 56 [(1, 0, (-1000000000000000), 1000000000000000, M103 75 a)] (xa_up M103 60 20 0) _
        refine ct_absb 1000000000000000 (by decide) (by decide) (by decide) (fun a105 ea105 => ?_)
        refine And.intro (show 0 < (M103 76 a) by omega) ?_
        show xa_C xm_I A h0 _ 230 [(2, 60, 0, 0, 0), (1, 0, 0, 999999999999999, (a105 * b) % (M103 76 a)), (1, 0, 0, 1000000000000000, M103 76 a)] (xa_up M103 60 20 0) _
        refine ct_tellPart (n := 0) (by first | rfl | (simp [xa_up]; done)) (by decide) (by decide) (by decide) (by omega) (fun g106 eg106 pg106 qg106 => ?_)
        show post (some (0, 0, 0, 0, 0)) (xa_up (xa_up (xa_up (xa_up (xa_up M103 60 20 0) 74 0 (((a105 * b) % (M103 76 a)).tdiv g106)) 60 20 1) 74 1 ((M103 76 a).tdiv g106)) 60 20 2)
        exact k _ _ ⟨_, _, _, rfl, Or.inr ⟨i2, Or.inr ⟨i1, w103, M103, ⟨_, xm_cor_f (by omega) xm_cor_r, hF103⟩, tw_s4 (v := v103) hs103 (by omega)⟩⟩⟩ (xm_cor_f (by omega) (xm_cor_a rfl (xm_cor_f (by omega) (xm_cor_a rfl (xm_cor_f (by omega) (xm_cor_t (xm_cor_f (by omega) xm_cor_r) hc103))))))
      · intro (c104 : v103 < 0)
        show post (some (0, 0, (-5), 0, v103)) M103
        exact k _ _ ⟨_, _, _, rfl, Or.inr ⟨i2, Or.inr ⟨i1, w103, M103, ⟨_, xm_cor_f (by omega) xm_cor_r, hF103⟩, tw_s4 hs103 rfl⟩⟩⟩ (xm_cor_t (xm_cor_f (by omega) xm_cor_r) hc103)
    · intro (i2 : ¬ (0 ≤ b ∧ b ≤ 2000))
      show post (some (0, 0, (-1), (-1), (-1))) (xa_up M 60 21 0)
      exact k _ _ ⟨_, _, _, rfl, Or.inl ⟨i2, rfl⟩⟩ (xm_cor_f (by omega) xm_cor_r)
  · intro (i1 : ¬ (0 ≤ a ∧ a ≤ 9))
    show post (some (0, 0, (-1), (-1), (-1))) (xa_up M 60 21 0)
    exact k _ _ ⟨_, _, _, rfl, tw_Pn i1⟩ (xm_cor_f (by omega) xm_cor_r)

theorem cx_45v {b : Bool} {A : Nat → Nat} {h0 : g_H} {d : Nat} {M : xa_M} {post : Option xa_V → xa_M → Prop} {l1 u1 x1 : Int} {N0 : xa_M} (hM0 : tu_M N0) (hC0 : tu_C M N0) (k : ∀ (lo hi v : Int) (M1 : xa_M), tw_A N0 x1 v (fun _ v => v = 0) → (∀ (q : Nat) (j : Int), ¬ (12 ≤ q ∧ q ≤ 14) → ¬ (q = 48 ∨ q = 49) → M1 q j = M q j) → post (some (0, 0, lo, hi, v)) M1) : xa_C (xl_I b) A h0 (d + 8) 45 [(2, 0, 0, 0, 0), (0, 0, l1, u1, x1)] M post := by
  refine xa_C_arg [(2, 0, 0, 0, 0), (0, 0, (-2147483648), 2147483647, x1)] (xa_svR (xa_svI (fun _ _ _ _ => by omega) (xa_sv0))) ?_
  refine xa_meth (Q0 := (3, 1, false, 0, 0, 11)) (by decide +kernel) ⟨rfl, rfl⟩ (full := s_c_45) rfl rfl ?_
  intro hM hv Q hgo
  refine hgo.1 29 [] 0 _ _ _ ?_
  show xa_C (xl_I b) A h0 _ 46 [(2, 0, 0, 0, 0), (0, 0, (-2147483648), 2147483647, x1)] M _
  refine cx_46t hM0 hC0 ?_
  intro v101 M102 (i1 : tu_S N0 x1 v101 M102) (i2 : tu_G M M102)
  refine And.intro ?_ ?_
  · intro (c3 : v101 = 0)
    rw [c3] at i1
    have ax := (tu_S0 i1).1
    show xa_C (xl_I b) A h0 _ 59 [(2, 48, 0, 0, 0)] M102 _
    refine cx_59_48 ?_
    show xa_C (xl_I b) A h0 _ 54 [(2, 12, 0, 0, 0), (0, 0, (-2147483648), 2147483647, x1)] (xa_up M102 48 1 0) _
    refine cx_54_12 (show 0 ≤ x1 ∧ x1 < 10 by omega) ?_
    show xa_C (xl_I b) A h0 _ 60 [(2, 48, 0, 0, 0), (1, 0, (-9223372036854775808), 9223372036854775807, M102 13 x1)] (xa_up M102 48 1 0) _
    refine cx_60a (by show (0 : Int) ≤ 0; omega) ?_
    intro M103 (i4 : ∀ (q : Nat) (j : Int), ¬ (q = 48 ∨ q = 49) → M103 q j = (xa_up M102 48 1 0) q j) (i5 : (0 : Int) ≤ M103 48 1)
    show xa_C (xl_I b) A h0 _ 51 [(2, 12, 0, 0, 0), (0, 0, (-2147483648), 2147483647, x1)] M103 _
    refine cx_51_12 (show 0 ≤ x1 ∧ x1 < 10 by omega) ?_
    show xa_C (xl_I b) A h0 _ 60 [(2, 48, 0, 0, 0), (1, 0, (-9223372036854775808), 9223372036854775807, M103 14 x1)] M103 _
    refine cx_60a (by show (0 : Int) ≤ M103 48 1; omega) ?_
    intro M104 (i6 : ∀ (q : Nat) (j : Int), ¬ (q = 48 ∨ q = 49) → M104 q j = M103 q j) (i7 : (0 : Int) ≤ M104 48 1)
    show post (some (0, 0, 0, 0, 0)) M104
    exact k _ _ _ _ (tw_A_of i1 (fun e _ _ _ => e)) (fun q j h1 h2 => (i6 q j h2).trans ((i4 q j h2).trans ((xa_up_ne (by omega)).trans (i2 q j h1))))
  · intro (c3 : ¬ v101 = 0)
    show post (some (0, 0, (-5), 0, v101)) M102
    exact k _ _ _ _ (tw_A_of i1 (fun e _ _ _ => e)) (fun q j h1 h2 => i2 q j h1)
theorem cx_61v {b : Bool} {A : Nat → Nat} {h0 : g_H} {d : Nat} {M : xa_M} {post : Option xa_V → xa_M → Prop} {N0 : xa_M} (hM0 : tu_M N0) (hC0 : tu_C M N0) (k : ∀ (lo hi v : Int) (M1 : xa_M), tw_61 N0 v → (∀ (q : Nat) (j : Int), ¬ (12 ≤ q ∧ q ≤ 14) → ¬ (q = 48 ∨ q = 49) → M1 q j = M q j) → post (some (0, 0, lo, hi, v)) M1) : xa_C (xl_I b) A h0 (d + 7) 61 [(2, 0, 0, 0, 0)] M post := by
  refine xa_meth (Q0 := (5, 1, false, 0, 0, 11)) (by decide +kernel) ⟨rfl, rfl⟩ (full := s_c_61) rfl rfl ?_
  intro hM hv Q hgo
  have loop : ∀ (f : Nat) (a x y : Int) (M1 : xa_M), 0 ≤ a ∧ a ≤ 10 → tu_G M M1 → x = wd_b (fun a => ¬ M1 14 a = 0) a.toNat → (∀ v, v = wd_b (fun a => ¬ M1 14 a = 0) 10 → tw_61 N0 v) → 10 - a < (f : Int) → Q 26 [(4, (0, 0, 0, 10, a)), (3, (0, 0, (-2147483648), 2147483647, y)), (2, (0, 0, (-2147483648), 2147483647, x)), (0, (2, 0, 0, 0, 0))] [] M1 := by
    intro f
    induction f with
    | zero => intro a x y M1 a1 hG hb hS hms; clear hb hS; omega
    | succ f ih =>
      intro a x y M1 a1 hG hb hS hms
      refine hgo.1 34 [26] 26 _ _ _ ?_
      refine And.intro ?_ ?_
      · intro (c1 : 10 ≤ a)
        show xa_C (xl_I b) A h0 _ 59 [(2, 48, 0, 0, 0)] M1 _
        refine cx_59_48 ?_
        show xa_C (xl_I b) A h0 _ 60 [(2, 48, 0, 0, 0), (1, 0, (-2147483648), 2147483647, y)] (xa_up M1 48 1 0) _
        refine cx_60a (by show (0 : Int) ≤ 0; omega) ?_
        intro M101 (i2 : ∀ (q : Nat) (j : Int), ¬ (q = 48 ∨ q = 49) → M101 q j = (xa_up M1 48 1 0) q j) (i3 : (0 : Int) ≤ M101 48 1)
        show post (some (0, 0, (-2147483648), 2147483647, x)) M101
        exact k _ _ _ _ (hS _ (by rw [hb, show a.toNat = 10 by omega])) (fun q j h1 h2 => (i2 q j h2).trans ((xa_up_ne (by omega)).trans (hG q j h1)))
      · intro (c1 : a < 10)
        show xa_C (xl_I b) A h0 _ 50 [(2, 12, 0, 0, 0), (0, 0, 0, 10, a)] M1 _
        refine cx_50_12 (show 0 ≤ a ∧ a < 10 by omega) ?_ ?_
        · intro (i4 : (M1 14 a) = 0)
          show Q 26 [(4, (0, 0, 1, 11, a + 1)), (3, (0, 0, (-2147483648), 2147483647, y)), (2, (0, 0, (-2147483648), 2147483647, x)), (0, (2, 0, 0, 0, 0))] [] M1
          refine hgo.2.1 26 _ [(4, (0, 0, 0, 10, a + 1)), (3, (0, 0, (-2147483648), 2147483647, y)), (2, (0, 0, (-2147483648), 2147483647, x)), (0, (2, 0, 0, 0, 0))] _ _ (xa_subI rfl rfl (fun _ _ _ _ => by omega) (xa_subI rfl rfl (fun _ _ _ _ => by omega) (xa_subI rfl rfl (fun _ _ _ _ => by omega) (xa_subR rfl (xa_sub0))))) ?_
          exact ih (a + 1) x y M1 (by omega) hG (tw_b0 a1.1 (fun h => h i4) hb) hS (by omega)
        · intro (i5 : ¬ (M1 14 a) = 0)
          show xa_C (xl_I b) A h0 _ 54 [(2, 12, 0, 0, 0), (0, 0, 0, 10, a)] M1 _
          refine cx_54_12 (show 0 ≤ a ∧ a < 10 by omega) ?_
          refine And.intro ?_ ?_
          · intro (c6 : (M1 13 a) ≤ 0)
            show Q 26 [(4, (0, 0, 1, 11, a + 1)), (3, (0, 0, (-2147483648), 2147483647, xa_ib 4 y 0)), (2, (0, 0, (-2147483648), 2147483647, xa_ib 4 x (xa_ib 6 1 a))), (0, (2, 0, 0, 0, 0))] [] M1
            refine hgo.2.1 26 _ [(4, (0, 0, 0, 10, a + 1)), (3, (0, 0, (-2147483648), 2147483647, xa_ib 4 y 0)), (2, (0, 0, (-2147483648), 2147483647, xa_ib 4 x (xa_ib 6 1 a))), (0, (2, 0, 0, 0, 0))] _ _ (xa_subI rfl rfl (fun _ _ _ _ => by omega) (xa_subI rfl rfl (fun _ _ _ _ => by omega) (xa_subI rfl rfl (fun _ _ _ _ => by omega) (xa_subR rfl (xa_sub0))))) ?_
            exact ih (a + 1) (xa_ib 4 x (xa_ib 6 1 a)) (xa_ib 4 y 0) M1 (by omega) hG (tw_b1 a1.1 i5 hb) hS (by omega)
          · intro (c6 : 0 < (M1 13 a))
            show Q 26 [(4, (0, 0, 1, 11, a + 1)), (3, (0, 0, (-2147483648), 2147483647, xa_ib 4 y (xa_ib 6 1 a))), (2, (0, 0, (-2147483648), 2147483647, xa_ib 4 x (xa_ib 6 1 a))), (0, (2, 0, 0, 0, 0))] [] M1
            refine hgo.2.1 26 _ [(4, (0, 0, 0, 10, a + 1)), (3, (0, 0, (-2147483648), 2147483647, xa_ib 4 y (xa_ib 6 1 a))), (2, (0, 0, (-2147483648), 2147483647, xa_ib 4 x (xa_ib 6 1 a))), (0, (2, 0, 0, 0, 0))] _ _ (xa_subI rfl rfl (fun _ _ _ _ => by omega) (xa_subI rfl rfl (fun _ _ _ _ => by omega) (xa_subI rfl rfl (fun _ _ _ _ => by omega) (xa_subR rfl (xa_sub0))))) ?_
            exact ih (a + 1) (xa_ib 4 x (xa_ib 6 1 a)) (xa_ib 4 y (xa_ib 6 1 a)) M1 (by omega) hG (tw_b1 a1.1 i5 hb) hS (by omega)
  refine hgo.1 20 [26] 0 _ _ _ ?_
  show xa_C (xl_I b) A h0 _ 47 [(2, 12, 0, 0, 0), (2, 1, 0, 0, 0), (0, 0, (-1), (-1), (-1))] M _
  refine cx_47t hM0 hC0 ?_
  intro v102 M103 (i1 : v102 = 0 ∨ v102 = -3 ∨ v102 = -5) (i2 : tu_V (-1) N0 v102 M103) (i3 : tu_G M M103)
  refine And.intro ?_ ?_
  · intro (c4 : v102 = 0)
    show Q 26 [(4, (0, 0, 0, 0, 0)), (3, (0, 0, 0, 0, 0)), (2, (0, 0, 0, 0, 0)), (1, (0, 0, (-5), 0, v102)), (0, (2, 0, 0, 0, 0))] [] M103
    refine hgo.2.1 26 _ [(4, (0, 0, 0, 10, 0)), (3, (0, 0, (-2147483648), 2147483647, 0)), (2, (0, 0, (-2147483648), 2147483647, 0)), (0, (2, 0, 0, 0, 0))] _ _ (xa_subI rfl rfl (fun _ _ _ _ => by omega) (xa_subI rfl rfl (fun _ _ _ _ => by omega) (xa_subI rfl rfl (fun _ _ _ _ => by omega) (xa_subR rfl (xa_sub0))))) ?_
    exact loop 11 0 0 0 M103 (by omega) i3 rfl (fun v e => tw_61_of i2 (Or.inr ⟨by omega, e⟩)) (by omega)
  · intro (c4 : ¬ v102 = 0)
    show post (some (0, 0, (-5), 0, v102)) M103
    exact k _ _ _ _ (tw_61_of i2 (Or.inl ⟨by omega, rfl⟩)) (fun q j h1 h2 => i3 q j h1)
theorem cx_62v {b : Bool} {A : Nat → Nat} {h0 : g_H} {d : Nat} {M : xa_M} {post : Option xa_V → xa_M → Prop} {N0 : xa_M} (hM0 : tu_M N0) (hC0 : tu_C M N0) (k : ∀ (lo hi v : Int) (M1 : xa_M), tw_62 N0 v → (∀ (q : Nat) (j : Int), ¬ (12 ≤ q ∧ q ≤ 14) → ¬ (q = 48 ∨ q = 49) → M1 q j = M q j) → post (some (0, 0, lo, hi, v)) M1) : xa_C (xl_I b) A h0 (d + 7) 62 [(2, 0, 0, 0, 0)] M post := by
  refine xa_meth (Q0 := (5, 1, false, 0, 0, 11)) (by decide +kernel) ⟨rfl, rfl⟩ (full := s_c_62) rfl rfl ?_
  intro hM hv Q hgo
  have hn6 := hM0.1
  have loop : ∀ (w : Int) (Nw : xa_M), w = -3 → tw_F N0 (-1) w Nw → ∀ (f : Nat) (m x : Int) (M1 : xa_M) (T : Int → Int), 0 ≤ m ∧ m ≤ 16 → m ≤ N0 60 6 → tu_G M M1 → tw_J N0 m T → x = wd_b (fun j => T j = 0) m.toNat → 16 - m < (f : Int) → Q 25 [(3, (0, 0, 0, 16, m)), (2, (0, 0, (-2147483648), 2147483647, x)), (0, (2, 0, 0, 0, 0))] [] M1 := by
    intro w Nw hw3 hFw f
    induction f with
    | zero => intro m x M1 T m1 hn hG hJ hb hms; clear hJ hb; omega
    | succ f ih =>
      intro m x M1 T m1 hn hG hJ hb hms
      have e10 : M1 1 10 = N0 60 6 := (hG 1 10 (by omega)).trans hC0.1
      refine hgo.1 31 [25] 25 _ _ _ ?_
      refine And.intro ?_ ?_
      · intro (c1 : (M1 1 10) ≤ m)
        show post (some (0, 0, (-2147483648), 2147483647, x)) M1
        exact k _ _ _ _ ⟨w, Nw, hFw, Or.inr ⟨hw3, m, T, m1.1, hn, hJ, Or.inl ⟨by omega, hb⟩⟩⟩ (fun q j h1 h2 => hG q j h1)
      · intro (c1 : m < (M1 1 10))
        show xa_C (xl_I b) A h0 _ 47 [(2, 12, 0, 0, 0), (2, 1, 0, 0, 0), (0, 0, 0, 16, m)] M1 _
        refine cx_47t hM0 (tu_C_G hC0 hG) ?_
        intro v101 M102 (i2 : v101 = 0 ∨ v101 = -3 ∨ v101 = -5) (i3 : tu_V m N0 v101 M102) (i4 : tu_G M1 M102)
        refine And.intro ?_ ?_
        · intro (c5 : ¬ v101 = (-5))
          refine And.intro ?_ ?_
          · intro (c6 : ¬ v101 = (-3))
            show Q 25 [(3, (0, 0, 1, 17, m + 1)), (2, (0, 0, (-2147483648), 2147483647, xa_ib 4 x (xa_ib 6 1 m))), (4, (0, 0, (-5), 0, v101)), (0, (2, 0, 0, 0, 0))] [] M102
            refine hgo.2.1 25 _ [(3, (0, 0, 0, 16, m + 1)), (2, (0, 0, (-2147483648), 2147483647, xa_ib 4 x (xa_ib 6 1 m))), (0, (2, 0, 0, 0, 0))] _ _ (xa_subI rfl rfl (fun _ _ _ _ => by omega) (xa_subI rfl rfl (fun _ _ _ _ => by omega) (xa_subR rfl (xa_sub0)))) ?_
            have hv : v101 = 0 := by omega
            rw [hv] at i3
            obtain ⟨N9, hN9, -⟩ := i3
            obtain ⟨T', t1, t2, t3⟩ := tw_Js hJ (by omega) ⟨N0, xm_cor_r, hN9⟩
            exact ih (m + 1) (xa_ib 4 x (xa_ib 6 1 m)) M102 T' (by omega) (by omega) (fun q j h => (i4 q j h).trans (hG q j h)) t1 (tw_b1 m1.1 t2 (hb.trans (wd_b_e _ (fun p hp => by show T (p : Int) = 0 ↔ T' (p : Int) = 0; rw [t3 (p : Int) (by omega) (by omega)])))) (by omega)
          · intro (c6 : v101 = (-3))
            show Q 25 [(3, (0, 0, 1, 17, m + 1)), (2, (0, 0, (-2147483648), 2147483647, xa_ib 4 x 0)), (4, (0, 0, (-5), 0, v101)), (0, (2, 0, 0, 0, 0))] [] M102
            refine hgo.2.1 25 _ [(3, (0, 0, 0, 16, m + 1)), (2, (0, 0, (-2147483648), 2147483647, xa_ib 4 x 0)), (0, (2, 0, 0, 0, 0))] _ _ (xa_subI rfl rfl (fun _ _ _ _ => by omega) (xa_subI rfl rfl (fun _ _ _ _ => by omega) (xa_subR rfl (xa_sub0)))) ?_
            have hv : v101 = -3 := by omega
            rw [hv] at i3
            obtain ⟨N9, hN9, -⟩ := i3
            obtain ⟨T', t1, t2, t3⟩ := tw_Js hJ (by omega) ⟨N0, xm_cor_r, hN9⟩
            exact ih (m + 1) (xa_ib 4 x 0) M102 T' (by omega) (by omega) (fun q j h => (i4 q j h).trans (hG q j h)) t1 (tw_bz m1.1 (fun h => by have : T' m = 0 := h; omega) (hb.trans (wd_b_e _ (fun p hp => by show T (p : Int) = 0 ↔ T' (p : Int) = 0; rw [t3 (p : Int) (by omega) (by omega)])))) (by omega)
        · intro (c5 : v101 = (-5))
          show post (some (0, 0, (-5), (-5), (-5))) M102
          have hv : v101 = -5 := by omega
          rw [hv] at i3
          obtain ⟨N9, hN9, -⟩ := i3
          exact k _ _ _ _ ⟨w, Nw, hFw, Or.inr ⟨hw3, m, T, m1.1, hn, hJ, Or.inr ⟨by omega, ⟨N9, N0, xm_cor_r, hN9⟩, rfl⟩⟩⟩ (fun q j h1 h2 => (fun q j h => (i4 q j h).trans (hG q j h)) q j h1)
  refine hgo.1 19 [25] 0 _ _ _ ?_
  show xa_C (xl_I b) A h0 _ 47 [(2, 12, 0, 0, 0), (2, 1, 0, 0, 0), (0, 0, (-1), (-1), (-1))] M _
  refine cx_47t hM0 hC0 ?_
  intro v103 M104 (i1 : v103 = 0 ∨ v103 = -3 ∨ v103 = -5) (i2 : tu_V (-1) N0 v103 M104) (i3 : tu_G M M104)
  refine And.intro ?_ ?_
  · intro (c4 : v103 = (-3))
    show Q 25 [(3, (0, 0, 0, 0, 0)), (2, (0, 0, 0, 0, 0)), (1, (0, 0, (-5), 0, v103)), (0, (2, 0, 0, 0, 0))] [] M104
    refine hgo.2.1 25 _ [(3, (0, 0, 0, 16, 0)), (2, (0, 0, (-2147483648), 2147483647, 0)), (0, (2, 0, 0, 0, 0))] _ _ (xa_subI rfl rfl (fun _ _ _ _ => by omega) (xa_subI rfl rfl (fun _ _ _ _ => by omega) (xa_subR rfl (xa_sub0)))) ?_
    obtain ⟨N9, hN9, -⟩ := i2
    exact loop v103 N9 (by omega) ⟨N0, xm_cor_r, hN9⟩ 17 0 0 M104 (fun _ => 0) (by omega) (by omega) i3 (fun j j0 j1 => by omega) rfl (by omega)
  · intro (c4 : ¬ v103 = (-3))
    show post (some (0, 0, (-5), 0, v103)) M104
    obtain ⟨N9, hN9, -⟩ := i2
    exact k _ _ _ _ ⟨_, N9, ⟨N0, xm_cor_r, hN9⟩, Or.inl ⟨by omega, rfl⟩⟩ (fun q j h1 h2 => i3 q j h1)
theorem cx_55y {b : Bool} {A : Nat → Nat} {h0 : g_H} {d : Nat} {M : xa_M} {post : Option xa_V → xa_M → Prop} {l1 u1 l2 u2 x y : Int} (hx : -9223372036854775807 ≤ x ∧ x ≤ 9223372036854775807) (hy : 1 ≤ y ∧ y ≤ 9223372036854775807) (k : ∀ g : Int, g = (Int.gcd x y : Int) → 1 ≤ g → g ≤ 9223372036854775807 → post (some (1, 0, 0, 9223372036854775807, g)) M) : xa_C (xl_I b) A h0 (d + 2) 55 [(1, 0, l1, u1, x), (1, 0, l2, u2, y)] M post :=
  cx_55g hx (by omega) (fun g hg _ g1 => k g hg (by rw [hg]; exact tu_gp hy.1) g1)
/-- shown has said 0 -/
theorem tu_H0 {N0 C1 : xa_M} {a : Int} (h : tu_H N0 a 0 C1) : tu_S N0 a 0 C1 ∧ ¬ tu_L C1 a := by
  rcases h with ⟨h1, -⟩ | ⟨h1, ⟨-, e⟩ | ⟨e, -⟩⟩
  · exact absurd rfl h1
  · omega
  · exact ⟨h1, e⟩
theorem tw_tm {x y : Int} (h : 1 ≤ y) : -y < x.tmod y ∧ x.tmod y < y := by
  have a := Int.tmod_lt_of_pos x (show 0 < y by omega)
  have b := Int.lt_tmod_of_pos x (show 0 < y by omega)
  omega
theorem cx_70r {b : Bool} {A : Nat → Nat} {h0 : g_H} {d : Nat} {M : xa_M} {post : Option xa_V → xa_M → Prop} {l1 u1 l2 u2 x y : Int} (h1 : 1 ≤ y) (k : ∀ r : Int, -y < r ∧ r < y → post (some (1, 0, -9223372036854775808, 9223372036854775807, r)) M) : xa_C (xl_I b) A h0 (d + 1) 70 [(1, 0, l1, u1, x), (1, 0, l2, u2, y)] M post := by
  refine xa_C_wk ?_
  refine xa_C_arg [(1, 0, (-9223372036854775808), 9223372036854775807, x), (1, 0, 1, 9223372036854775807, y)] (xa_svL (fun _ _ _ _ => by omega) (xa_svL (fun _ _ _ _ => by omega) xa_sv0)) ?_
  refine xa_meth (Q0 := (4, 3, false, 0, 0, 11)) (by decide +kernel) ⟨rfl, rfl⟩ (full := s_c_70) rfl rfl ?_
  intro hM hv Q hgo
  refine hgo.1 11 [] 0 _ _ _ ?_
  show xa_wk post (some (1, 0, (-9223372036854775808), 9223372036854775807, x.tmod y)) M
  exact xa_wkL _ rfl (fun _ _ => by omega) (k _ (tw_tm h1))
theorem cx_71a {b : Bool} {A : Nat → Nat} {h0 : g_H} {d : Nat} {M : xa_M} {post : Option xa_V → xa_M → Prop} {l1 u1 l2 u2 x y : Int} (h0' : (0 : Int) ≤ M 48 1) (hx : -9223372036854775807 ≤ x ∧ x ≤ 9223372036854775807) (hy : 1 ≤ y ∧ y ≤ 9223372036854775807) (k : ∀ M1 : xa_M, (∀ (q : Nat) (j : Int), ¬ (q = 48 ∨ q = 49) → M1 q j = M q j) → (0 : Int) ≤ M1 48 1 → post none M1) : xa_C (xl_I b) A h0 (d + 3) 71 [(2, 48, 0, 0, 0), (1, 0, l1, u1, x), (1, 0, l2, u2, y)] M post := by
  refine xa_C_arg [(2, 48, 0, 0, 0), (1, 0, (-9223372036854775808), 9223372036854775807, x), (1, 0, (-9223372036854775808), 9223372036854775807, y)] (xa_svR (xa_svL (fun _ _ _ _ => by omega) (xa_svL (fun _ _ _ _ => by omega) xa_sv0))) ?_
  refine xa_meth (Q0 := (7, 0, false, 0, 0, 6)) (by decide +kernel) ⟨rfl, rfl⟩ (full := s_c_71) rfl rfl ?_
  intro hM hv Q hgo
  refine hgo.1 19 [] 0 _ _ _ ?_
  show xa_C (xl_I b) A h0 _ 55 [(1, 0, (-9223372036854775808), 9223372036854775807, x), (1, 0, (-9223372036854775808), 9223372036854775807, y)] M _
  refine cx_55y (by omega) (by omega) ?_
  intro g101 (i1 : g101 = (Int.gcd (x) (y) : Int)) (i2 : 1 ≤ g101) (i3 : g101 ≤ 9223372036854775807)
  show xa_C (xl_I b) A h0 _ 21 [(1, 0, (-9223372036854775808), 9223372036854775807, x), (1, 0, 0, 9223372036854775807, g101)] M _
  refine cx_21t rfl (show 1 ≤ g101 ∧ g101 ≤ 9223372036854775807 by omega) ?_
  show xa_C (xl_I b) A h0 _ 60 [(2, 48, 0, 0, 0), (1, 0, (-9223372036854775808), 9223372036854775807, (x).tdiv g101)] M _
  refine cx_60a (by show (0 : Int) ≤ M 48 1; omega) ?_
  intro M102 (i4 : ∀ (q : Nat) (j : Int), ¬ (q = 48 ∨ q = 49) → M102 q j = M q j) (i5 : (0 : Int) ≤ M102 48 1)
  show xa_C (xl_I b) A h0 _ 21 [(1, 0, (-9223372036854775808), 9223372036854775807, y), (1, 0, 0, 9223372036854775807, g101)] M102 _
  refine cx_21t rfl (show 1 ≤ g101 ∧ g101 ≤ 9223372036854775807 by omega) ?_
  show xa_C (xl_I b) A h0 _ 60 [(2, 48, 0, 0, 0), (1, 0, (-9223372036854775808), 9223372036854775807, (y).tdiv g101)] M102 _
  refine cx_60a (by show (0 : Int) ≤ M102 48 1; omega) ?_
  intro M103 (i6 : ∀ (q : Nat) (j : Int), ¬ (q = 48 ∨ q = 49) → M103 q j = M102 q j) (i7 : (0 : Int) ≤ M103 48 1)
  show post none M103
  exact k _ (fun q j h2 => (i6 q j h2).trans (i4 q j h2)) i7
theorem cx_67 {b : Bool} {A : Nat → Nat} {h0 : g_H} {d : Nat} {M : xa_M} {post : Option xa_V → xa_M → Prop} {l0 u0 : Int} {x1 : Int} (k1 : (x1 < 0) → post (some (0, 0, 0, 0, 0)) M) (k2 : (0 ≤ x1) → (2000 < x1) → post (some (0, 0, 0, 0, 0)) M) (k3 : (0 ≤ x1) → (x1 ≤ 2000) → post (some (0, 0, 1, 1, 1)) M) : xa_C (xl_I b) A h0 (d + 1) 67 [(0, 0, l0, u0, x1)] M post := by
  refine xa_C_arg [(0, 0, (-2147483648), 2147483647, x1)] (xa_svI (fun _ _ _ _ => by omega) (xa_sv0)) ?_
  refine xa_meth (Q0 := (1, 2, false, 0, 0, 11)) (by decide +kernel) ⟨rfl, rfl⟩ (full := s_c_67) rfl rfl ?_
  intro hM hv Q hgo
  refine hgo.1 12 [] 0 _ _ _ ?_
  refine And.intro ?_ ?_
  · intro (c1 : x1 < 0)
    show post (some (0, 0, 0, 0, 0)) M
    exact k1 c1
  · intro (c1 : 0 ≤ x1)
    refine And.intro ?_ ?_
    · intro (c2 : 2000 < x1)
      show post (some (0, 0, 0, 0, 0)) M
      exact k2 c1 c2
    · intro (c2 : x1 ≤ 2000)
      show post (some (0, 0, 1, 1, 1)) M
      exact k3 c1 c2
theorem cx_66v {b : Bool} {A : Nat → Nat} {h0 : g_H} {d : Nat} {M : xa_M} {post : Option xa_V → xa_M → Prop} {l1 u1 l2 u2 x1 x2 : Int} {N0 : xa_M} (hM0 : tu_M N0) (hC0 : tu_C M N0) (k : ∀ (lo hi v : Int) (M1 : xa_M), tw_66 N0 x1 x2 v → (∀ (q : Nat) (j : Int), ¬ (12 ≤ q ∧ q ≤ 14) → ¬ (q = 48 ∨ q = 49) → M1 q j = M q j) → post (some (0, 0, lo, hi, v)) M1) : xa_C (xl_I b) A h0 (d + 9) 66 [(2, 0, 0, 0, 0), (0, 0, l1, u1, x1), (0, 0, l2, u2, x2)] M post := by
  refine xa_C_arg [(2, 0, 0, 0, 0), (0, 0, (-2147483648), 2147483647, x1), (0, 0, (-2147483648), 2147483647, x2)] (xa_svR (xa_svI (fun _ _ _ _ => by omega) (xa_svI (fun _ _ _ _ => by omega) (xa_sv0)))) ?_
  refine xa_meth (Q0 := (6, 1, false, 0, 0, 11)) (by decide +kernel) ⟨rfl, rfl⟩ (full := s_c_66) rfl rfl ?_
  intro hM hv Q hgo
  refine hgo.1 37 [] 0 _ _ _ ?_
  show xa_C (xl_I b) A h0 _ 67 [(0, 0, (-2147483648), 2147483647, x2)] M _
  refine cx_67 ?_ ?_ ?_
  · intro (i1 : x2 < 0)
    show post (some (0, 0, (-1), (-1), (-1))) M
    exact k _ _ _ _ (Or.inl ⟨by omega, rfl⟩) (fun _ _ _ _ => rfl)
  · intro (i2 : 0 ≤ x2) (i3 : 2000 < x2)
    show post (some (0, 0, (-1), (-1), (-1))) M
    exact k _ _ _ _ (Or.inl ⟨by omega, rfl⟩) (fun _ _ _ _ => rfl)
  · intro (i4 : 0 ≤ x2) (i5 : x2 ≤ 2000)
    show xa_C (xl_I b) A h0 _ 68 [(2, 0, 0, 0, 0), (0, 0, (-2147483648), 2147483647, x1)] M _
    refine cx_68t hM0 hC0 ?_
    intro v101 M102 (i6 : tu_H N0 x1 v101 M102) (i7 : tu_G M M102)
    refine And.intro ?_ ?_
    · intro (c8 : v101 = 0)
      rw [c8] at i6
      obtain ⟨hs0, nL⟩ := tu_H0 i6
      obtain ⟨ax, N9, t1, t2, t3, t4, t5, t6, t7⟩ := tu_S0 hs0
      show xa_C (xl_I b) A h0 _ 51 [(2, 12, 0, 0, 0), (0, 0, (-2147483648), 2147483647, x1)] M102 _
      refine cx_51_12 (show 0 ≤ x1 ∧ x1 < 10 by omega) ?_
      show xa_C (xl_I b) A h0 _ 59 [(2, 48, 0, 0, 0)] M102 _
      refine cx_59_48 ?_
      show xa_C (xl_I b) A h0 _ 54 [(2, 12, 0, 0, 0), (0, 0, (-2147483648), 2147483647, x1)] (xa_up M102 48 1 0) _
      refine cx_54_12 (show 0 ≤ x1 ∧ x1 < 10 by omega) ?_
      show xa_C (xl_I b) A h0 _ 56 [(1, 0, (-9223372036854775808), 9223372036854775807, M102 13 x1)] (xa_up M102 48 1 0) _
      refine ct_abs (lo := 0) (hi := 1000000000000000) (show -9223372036854775808 < (M102 13 x1) by omega) (fun a103 h104 => ⟨by omega, ?_⟩)
      show xa_C (xl_I b) A h0 _ 70 [(1, 0, (-9223372036854775808), 9223372036854775807, xa_w64 (a103 * x2)), (1, 0, (-9223372036854775808), 9223372036854775807, M102 14 x1)] (xa_up M102 48 1 0) _
      refine cx_70r (show 1 ≤ (M102 14 x1) by omega) ?_
      intro r105 (i9 : -(M102 14 x1) < r105 ∧ r105 < (M102 14 x1))
      show xa_C (xl_I b) A h0 _ 71 [(2, 48, 0, 0, 0), (1, 0, (-9223372036854775808), 9223372036854775807, r105), (1, 0, (-9223372036854775808), 9223372036854775807, M102 14 x1)] (xa_up M102 48 1 0) _
      refine cx_71a (by show (0 : Int) ≤ 0; omega) (by omega) (by omega) ?_
      intro M106 (i10 : ∀ (q : Nat) (j : Int), ¬ (q = 48 ∨ q = 49) → M106 q j = (xa_up M102 48 1 0) q j) (i11 : (0 : Int) ≤ M106 48 1)
      show post (some (0, 0, 0, 0, 0)) M106
      exact k _ _ _ _ (Or.inr ⟨by omega, tw_H i6⟩) (fun q j h1 h2 => (i10 q j h2).trans ((xa_up_ne (by omega)).trans (i7 q j h1)))
    · intro (c8 : ¬ v101 = 0)
      show post (some (0, 0, (-5), 0, v101)) M102
      exact k _ _ _ _ (Or.inr ⟨by omega, tw_H i6⟩) (fun q j h1 h2 => i7 q j h1)
/-- when two axles stand together again -/
def tw_y (U D U' D' v : Int) : Prop := (100000 < (D * D').tdiv (Int.gcd (U * D' - U' * D) (D * D') : Int) ∧ v = -6) ∨ ((D * D').tdiv (Int.gcd (U * D' - U' * D) (D * D') : Int) ≤ 100000 ∧ v = (D * D').tdiv (Int.gcd (U * D' - U' * D) (D * D') : Int))
theorem tw_y1 {U D U' D' v v' : Int} (h : tw_y U D U' D' v) (h' : tw_y U D U' D' v') : v = v' := by
  rcases h with ⟨a, b⟩ | ⟨a, b⟩ <;> rcases h' with ⟨c, d⟩ | ⟨c, d⟩ <;> omega
theorem tw_y2 {U D U' D' g : Int} (hD : 1 ≤ D * D') (hg : g = (Int.gcd (U * D' - U' * D) (D * D') : Int)) (h : (D * D').tdiv g ≤ 100000) : tw_y U D U' D' (xa_w32 ((D * D').tdiv g)) := by
  have p : 0 ≤ (D * D').tdiv g := Int.tdiv_nonneg (by omega) (by rw [hg]; exact Int.natCast_nonneg _)
  rw [xa_w32_id (by omega) (by omega)]
  subst hg
  exact Or.inr ⟨h, rfl⟩
theorem tw_y6 {U D U' D' g : Int} (hg : g = (Int.gcd (U * D' - U' * D) (D * D') : Int)) (h : 100000 < (D * D').tdiv g) : tw_y U D U' D' (-6) := by
  subst hg
  exact Or.inl ⟨h, rfl⟩
/-- of an axle that turns -/
def tw_tT (a b : Int) (N : xa_M) (v : Int) : Prop := (N 77 b = 0 ∧ v = -2) ∨ (N 77 b = 1 ∧ (tw_L N a ∨ tw_L N b) ∧ v = -5) ∨ (N 77 b = 1 ∧ ¬ (tw_L N a ∨ tw_L N b) ∧ tw_y (N 75 a) (N 76 a) (N 75 b) (N 76 b) v)
theorem tw_tT_one {a b v v' : Int} {N N' : xa_M} (b0 : 0 ≤ b ∧ b ≤ 9) (h7 : ∀ c, 0 ≤ c → c < 10 → N' 77 c = N 77 c ∧ (N 77 c = 1 → N' 75 c = N 75 c ∧ N' 76 c = N 76 c)) (e1 : N' 75 a = N 75 a) (e2 : N' 76 a = N 76 a) (h : tw_tT a b N v) (h' : tw_tT a b N' v') : v = v' := by
  obtain ⟨k1, k2⟩ := h7 b b0.1 (by omega)
  unfold tw_tT at h h'
  rcases h with ⟨x1, x2⟩ | ⟨x1, x2, x3⟩ | ⟨x1, x2, x3⟩
  · rw [k1] at h'
    omega
  · obtain ⟨k3, k4⟩ := k2 x1
    unfold tw_L at x2 h'
    rw [k1, e1, e2, k3, k4] at h'
    rcases h' with ⟨y1, -⟩ | ⟨-, -, y3⟩ | ⟨-, y2, -⟩
    · omega
    · omega
    · exact absurd x2 y2
  · obtain ⟨k3, k4⟩ := k2 x1
    unfold tw_L at x2 h'
    rw [k1, e1, e2, k3, k4] at h'
    rcases h' with ⟨y1, -⟩ | ⟨-, y2, -⟩ | ⟨-, -, y3⟩
    · omega
    · exact absurd y2 x2
    · exact tw_y1 x3 y3
def tw_72 (N0 : xa_M) (a b v : Int) : Prop := tw_P (0 ≤ b ∧ b ≤ 9) N0 a v (tw_tT a b)
theorem tw_72_one {N0 : xa_M} {a b v v' : Int} (hr : xm_rng N0) (h : tw_72 N0 a b v) (h' : tw_72 N0 a b v') : v = v' := by
  by_cases c : 0 ≤ b ∧ b ≤ 9
  · exact tw_P_one hr h h' (fun _ _ _ h7 _ e1 e2 t t' => tw_tT_one c h7 e1 e2 t t')
  · rcases h with ⟨-, e⟩ | ⟨e, -⟩
    · rcases h' with ⟨-, e'⟩ | ⟨e', -⟩
      · omega
      · exact absurd e' c
    · exact absurd e c
theorem tw_Lc {C N : xa_M} {a : Int} (h : C 13 a = N 75 a ∧ C 14 a = N 76 a) : tu_L C a ↔ tw_L N a := by
  unfold tu_L tw_L
  rw [h.1, h.2]
/-- the words of 64 bits hold it -/
theorem tw_w {C : xa_M} {a b : Int} (ha : ¬ tu_L C a) (hb : ¬ tu_L C b) (a1 : 1 ≤ C 14 a) (b1 : 1 ≤ C 14 b) : (xa_w64 (C 13 a * C 14 b) = C 13 a * C 14 b ∧ xa_w64 (C 13 b * C 14 a) = C 13 b * C 14 a) ∧ xa_w64 (C 14 a * C 14 b) = C 14 a * C 14 b ∧ xa_w64 (xa_w64 (C 13 a * C 14 b) - xa_w64 (C 13 b * C 14 a)) = C 13 a * C 14 b - C 13 b * C 14 a ∧ (1 ≤ C 14 a * C 14 b ∧ C 14 a * C 14 b ≤ 1000000000000000000) ∧ (-2000000000000000000 ≤ C 13 a * C 14 b - C 13 b * C 14 a ∧ C 13 a * C 14 b - C 13 b * C 14 a ≤ 2000000000000000000) := by
  unfold tu_L at ha hb
  have p1 := xm_mul9 (p := C 13 a) (q := C 14 b) (by omega) (by omega) (by omega) (by omega)
  have p2 := xm_mul9 (p := C 13 b) (q := C 14 a) (by omega) (by omega) (by omega) (by omega)
  have p3 := xm_mul9 (p := C 14 a) (q := C 14 b) (by omega) (by omega) (by omega) (by omega)
  have p4 := Int.mul_pos (show 0 < C 14 a by omega) (show 0 < C 14 b by omega)
  have e1 := xa_w64_id (n := C 13 a * C 14 b) (by omega) (by omega)
  have e2 := xa_w64_id (n := C 13 b * C 14 a) (by omega) (by omega)
  exact ⟨⟨e1, e2⟩, xa_w64_id (by omega) (by omega), by rw [e1, e2]; exact xa_w64_id (by omega) (by omega), ⟨by omega, by omega⟩, by omega, by omega⟩
theorem tu_at {C N : xa_M} {a : Int} (h : tu_R C N) (ha : 0 ≤ a ∧ a < 10) (hn : ¬ C 14 a = 0) : N 77 a = 1 ∧ C 13 a = N 75 a ∧ C 14 a = N 76 a := by
  rcases h a ha.1 ha.2 with ⟨-, e⟩ | ⟨e1, e2, -⟩
  · exact absurd e hn
  · exact ⟨e1, e2⟩
theorem ms_togetherV {A : Nat → Nat} {h0 : g_H} {d : Nat} {M : xa_M} {post : Option xa_V → xa_M → Prop} {l1 u1 l2 u2 : Int} {a b : Int} (hI : xm_Inv M) (k : ∀ (o : Option xa_V) (M1 : xa_M), (∃ lo hi n, o = some (0, 0, lo, hi, n) ∧ tw_72 M a b n) → xm_cor M M1 → post o M1) : xa_C xm_I A h0 (d + 7) 274 [(2, 60, 0, 0, 0), (0, 0, l1, u1, a), (0, 0, l2, u2, b)] M post := by
  refine xa_C_arg [(2, 60, 0, 0, 0), (0, 0, (-2147483648), 2147483647, a), (0, 0, (-2147483648), 2147483647, b)] (xa_svR (xa_svI (fun _ _ _ _ => by omega) (xa_svI (fun _ _ _ _ => by omega) xa_sv0))) ?_
  refine xa_meth (Q0 := (10, 1, false, 0, 0, 12)) (by decide +kernel) ⟨rfl, rfl⟩ (full := s_c_274) rfl rfl ?_
  intro hM hv Q hgo
  refine hgo.1 89 [] 0 _ _ _ ?_
  show xa_C xm_I A h0 _ 215 [(0, 0, (-2147483648), 2147483647, a)] (xa_up M 60 21 0) _
  refine ct_isAxle ?_ ?_
  · intro (i1 : 0 ≤ a ∧ a ≤ 9)
    show xa_C xm_I A h0 _ 215 [(0, 0, (-2147483648), 2147483647, b)] (xa_up M 60 21 0) _
    refine ct_isAxle ?_ ?_
    · intro (i2 : 0 ≤ b ∧ b ≤ 9)
      show xa_C xm_I A h0 _ 227 [(2, 60, 0, 0, 0), (0, 0, (-1), (-1), (-1))] (xa_up M 60 21 0) _
      refine xa_C_mok (ct_findTurns (xm_Inv_cor (xm_cor_f (by omega) xm_cor_r) hI) (fun v3 M3 hv3 hc3 hT3 hF3 hM3 => ?_))
      have hr0 := xm_rng_I hM hI
      have F3 : tw_F M (-1) v3 M3 := ⟨_, xm_cor_f (by omega) xm_cor_r, hF3⟩
      have t3a := xm_t77 hM3 a i1.1 (by omega)
      have t3b := xm_t77 hM3 b i2.1 (by omega)
      refine And.intro ?_ ?_
      · intro (c4 : 0 ≤ v3)
        refine And.intro (show 0 ≤ a ∧ a < 10 by omega) ?_
        refine And.intro ?_ ?_
        · intro (c5 : (M3 77 a) = 0)
          show post (some (0, 0, (-2), (-2), (-2))) M3
          exact k _ _ ⟨_, _, _, rfl, Or.inr ⟨i2, Or.inr ⟨i1, v3, M3, F3, Or.inr (Or.inl ⟨by omega, c5, rfl⟩)⟩⟩⟩ (xm_cor_t (xm_cor_f (by omega) xm_cor_r) hc3)
        · intro (c5 : ¬ (M3 77 a) = 0)
          refine And.intro (show 0 ≤ b ∧ b < 10 by omega) ?_
          refine And.intro ?_ ?_
          · intro (c6 : ¬ (M3 77 b) = 0)
            show xa_C xm_I A h0 _ 273 [(2, 60, 0, 0, 0), (0, 0, (-2147483648), 2147483647, a)] M3 _
            refine xa_C_mok (ct_fairStateF (xm_Inv_cor (xm_cor_t (xm_cor_f (by omega) xm_cor_r) hc3) hI) (by omega) (by omega) (fun v7 w7 M7 hc7 hT7 hF7 hw7 hv7 hs7 hM7 => ?_))
            have F7 : tw_F M (-1) w7 M7 := ⟨M3, xm_cor_t (xm_cor_f (by omega) xm_cor_r) hc3, hF7⟩
            obtain ⟨d7, g7⟩ := tw_F_det hr0 F3 F7
            obtain ⟨-, g7⟩ := g7 (by omega)
            obtain ⟨-, a7, -⟩ := g7 a i1.1 (by omega)
            obtain ⟨-, b7, -⟩ := g7 b i2.1 (by omega)
            refine And.intro ?_ ?_
            · intro (c8 : v7 < 0)
              show post (some (0, 0, (-5), (-5), (-5))) M7
              exact k _ _ ⟨_, _, _, rfl, Or.inr ⟨i2, Or.inr ⟨i1, w7, M7, F7, Or.inr (Or.inr ⟨by omega, by omega, Or.inr (Or.inl ⟨by omega, Or.inl (tw_f5 (tw_s5 hs7 (by omega) (by omega)) c8), rfl⟩)⟩)⟩⟩⟩ (xm_cor_t (xm_cor_t (xm_cor_f (by omega) xm_cor_r) hc3) hc7)
            · intro (c8 : 0 ≤ v7)
              show xa_C xm_I A h0 _ 273 [(2, 60, 0, 0, 0), (0, 0, (-2147483648), 2147483647, b)] M7 _
              refine xa_C_mok (ct_fairStateF (xm_Inv_cor (xm_cor_t (xm_cor_t (xm_cor_f (by omega) xm_cor_r) hc3) hc7) hI) (by omega) (by omega) (fun v9 w9 M9 hc9 hT9 hF9 hw9 hv9 hs9 hM9 => ?_))
              have F9 : tw_F M (-1) w9 M9 := ⟨M7, xm_cor_t (xm_cor_t (xm_cor_f (by omega) xm_cor_r) hc3) hc7, hF9⟩
              obtain ⟨d9, g9⟩ := tw_F_det hr0 F3 F9
              obtain ⟨-, g9⟩ := g9 (by omega)
              obtain ⟨-, a9, -⟩ := g9 a i1.1 (by omega)
              obtain ⟨-, b9, -⟩ := g9 b i2.1 (by omega)
              have dt := xm_FT_det hc7 (xm_rng_c (xm_cor_t (xm_cor_f (by omega) xm_cor_r) hc3) (xm_rng_I hM hI)) hF7 hF9
              have y3 : 0 ≤ v7 → 0 ≤ v9 → (M9 75 a = M7 75 a ∧ M9 76 a = M7 76 a) := fun z1 z2 => by
                have y1 := hv7 z1
                have y2 := hv9 z2
                have d3 := (dt.2 (by omega)).2 a (by omega) (by omega)
                exact d3.2.2 y1.2.1
              have w64 : 0 ≤ v7 → 0 ≤ v9 → (xa_w64 (M9 75 a * M9 76 b) = M9 75 a * M9 76 b ∧ xa_w64 (M9 75 b * M9 76 a) = M9 75 b * M9 76 a ∧ xa_w64 (M9 76 a * M9 76 b) = M9 76 a * M9 76 b ∧ xa_w64 (xa_w64 (M9 75 a * M9 76 b) - xa_w64 (M9 75 b * M9 76 a)) = M9 75 a * M9 76 b - M9 75 b * M9 76 a ∧ 1 ≤ M9 76 a * M9 76 b ∧ (-1000000000000000000 ≤ M9 75 a * M9 76 b ∧ M9 75 a * M9 76 b ≤ 1000000000000000000) ∧ (-1000000000000000000 ≤ M9 75 b * M9 76 a ∧ M9 75 b * M9 76 a ≤ 1000000000000000000)) := fun z1 z2 => by
                have y1 := hv7 z1
                have y2 := hv9 z2
                have y3 := y3 z1 z2
                have p1 := xm_mul9 (p := M9 75 a) (q := M9 76 b) (by omega) (by omega) (by omega) (by omega)
                have p2 := xm_mul9 (p := M9 75 b) (q := M9 76 a) (by omega) (by omega) (by omega) (by omega)
                have p3 := xm_mul9 (p := M9 76 a) (q := M9 76 b) (by omega) (by omega) (by omega) (by omega)
                have p4 := Int.mul_pos (show 0 < M9 76 a by omega) (show 0 < M9 76 b by omega)
                exact ⟨xa_w64_id (by omega) (by omega), xa_w64_id (by omega) (by omega), xa_w64_id (by omega) (by omega), by rw [xa_w64_id (n := M9 75 a * M9 76 b) (by omega) (by omega), xa_w64_id (n := M9 75 b * M9 76 a) (by omega) (by omega), xa_w64_id (by omega) (by omega)], by omega, p1, p2⟩
              refine And.intro ?_ ?_
              · intro (c10 : 0 ≤ v9)
                have nL : ¬ (tw_L M9 a ∨ tw_L M9 b) := by
                  obtain ⟨y1, y2⟩ := y3 c8 c10
                  have n7 := tw_f0 (tw_s5 hs7 (by omega) (by omega)) c8
                  have n9 := tw_f0 (tw_s5 hs9 (by omega) (by omega)) c10
                  unfold tw_L at n7 n9 ⊢
                  rw [y1, y2]
                  omega
                refine And.intro (show 0 ≤ a ∧ a < 10 by omega) ?_
                refine And.intro (show 0 ≤ b ∧ b < 10 by omega) ?_
                refine And.intro (show 0 ≤ b ∧ b < 10 by omega) ?_
                refine And.intro (show 0 ≤ a ∧ a < 10 by omega) ?_
                refine And.intro (show 0 ≤ a ∧ a < 10 by omega) ?_
                refine And.intro (show 0 ≤ b ∧ b < 10 by omega) ?_
                show xa_C xm_I A h0 _ 229 [(1, 0, (-9223372036854775808), 9223372036854775807, xa_w64 ((xa_w64 ((M9 75 a) * (M9 76 b))) - (xa_w64 ((M9 75 b) * (M9 76 a))))), (1, 0, (-9223372036854775808), 9223372036854775807, xa_w64 ((M9 76 a) * (M9 76 b)))] M9 _
                refine ct_gcd2 (by omega) (by omega) (fun g11 eg11 pg11 qg11 => ?_)
                refine And.intro ?_ ?_
                · intro (c12 : ((xa_w64 ((M9 76 a) * (M9 76 b))).tdiv g11) ≤ 100000)
                  show xa_C xm_I A h0 _ 231 [(2, 60, 0, 0, 0), (1, 0, (-9223372036854775808), 9223372036854775807, (xa_w64 ((xa_w64 ((M9 75 a) * (M9 76 b))) - (xa_w64 ((M9 75 b) * (M9 76 a))))).tdiv g11)] (xa_up M9 60 20 0) _
                  refine ct_tell (n := 0) (by first | rfl | (simp [xa_up]; done) | omega) (by omega) (by omega) ?_
                  show post (some (0, 0, (-2147483648), 2147483647, xa_w32 ((xa_w64 ((M9 76 a) * (M9 76 b))).tdiv g11))) (xa_up (xa_up (xa_up M9 60 20 0) 74 0 ((xa_w64 ((xa_w64 ((M9 75 a) * (M9 76 b))) - (xa_w64 ((M9 75 b) * (M9 76 a))))).tdiv g11)) 60 20 1)
                  obtain ⟨q1, q2, q3, q4, q5, -⟩ := w64 c8 c10
                  rw [q4, q3] at eg11
                  rw [q3] at c12
                  exact k _ _ ⟨_, _, _, rfl, Or.inr ⟨i2, Or.inr ⟨i1, w9, M9, F9, Or.inr (Or.inr ⟨by omega, by omega, Or.inr (Or.inr ⟨by omega, nL, by rw [q3]; exact tw_y2 q5 eg11 c12⟩)⟩)⟩⟩⟩ (xm_cor_f (by omega) (xm_cor_a rfl (xm_cor_f (by omega) (xm_cor_t (xm_cor_t (xm_cor_t (xm_cor_f (by omega) xm_cor_r) hc3) hc7) hc9))))
                · intro (c12 : 100000 < ((xa_w64 ((M9 76 a) * (M9 76 b))).tdiv g11))
                  show post (some (0, 0, (-6), (-6), (-6))) M9
                  obtain ⟨q1, q2, q3, q4, q5, -⟩ := w64 c8 c10
                  rw [q4, q3] at eg11
                  rw [q3] at c12
                  exact k _ _ ⟨_, _, _, rfl, Or.inr ⟨i2, Or.inr ⟨i1, w9, M9, F9, Or.inr (Or.inr ⟨by omega, by omega, Or.inr (Or.inr ⟨by omega, nL, tw_y6 eg11 c12⟩)⟩)⟩⟩⟩ (xm_cor_t (xm_cor_t (xm_cor_t (xm_cor_f (by omega) xm_cor_r) hc3) hc7) hc9)
              · intro (c10 : v9 < 0)
                show post (some (0, 0, (-5), (-5), (-5))) M9
                exact k _ _ ⟨_, _, _, rfl, Or.inr ⟨i2, Or.inr ⟨i1, w9, M9, F9, Or.inr (Or.inr ⟨by omega, by omega, Or.inr (Or.inl ⟨by omega, Or.inr (tw_f5 (tw_s5 hs9 (by omega) (by omega)) c10), rfl⟩)⟩)⟩⟩⟩ (xm_cor_t (xm_cor_t (xm_cor_t (xm_cor_f (by omega) xm_cor_r) hc3) hc7) hc9)
          · intro (c6 : (M3 77 b) = 0)
            show post (some (0, 0, (-2), (-2), (-2))) M3
            exact k _ _ ⟨_, _, _, rfl, Or.inr ⟨i2, Or.inr ⟨i1, v3, M3, F3, Or.inr (Or.inr ⟨by omega, by omega, Or.inl ⟨c6, rfl⟩⟩)⟩⟩⟩ (xm_cor_t (xm_cor_f (by omega) xm_cor_r) hc3)
      · intro (c4 : v3 < 0)
        show post (some (0, 0, (-5), 0, v3)) M3
        exact k _ _ ⟨_, _, _, rfl, Or.inr ⟨i2, Or.inr ⟨i1, v3, M3, F3, Or.inl ⟨by omega, rfl⟩⟩⟩⟩ (xm_cor_t (xm_cor_f (by omega) xm_cor_r) hc3)
    · intro (i2 : ¬ (0 ≤ b ∧ b ≤ 9))
      show post (some (0, 0, (-1), (-1), (-1))) (xa_up M 60 21 0)
      exact k _ _ ⟨_, _, _, rfl, Or.inl ⟨i2, rfl⟩⟩ (xm_cor_f (by omega) xm_cor_r)
  · intro (i1 : ¬ (0 ≤ a ∧ a ≤ 9))
    show post (some (0, 0, (-1), (-1), (-1))) (xa_up M 60 21 0)
    exact k _ _ ⟨_, _, _, rfl, tw_Pn i1⟩ (xm_cor_f (by omega) xm_cor_r)

theorem cx_72v {b : Bool} {A : Nat → Nat} {h0 : g_H} {d : Nat} {M : xa_M} {post : Option xa_V → xa_M → Prop} {l1 u1 l2 u2 x1 x2 : Int} {N0 : xa_M} (hM0 : tu_M N0) (hC0 : tu_C M N0) (k : ∀ (lo hi v : Int) (M1 : xa_M), tw_72 N0 x1 x2 v → (∀ (q : Nat) (j : Int), ¬ (12 ≤ q ∧ q ≤ 14) → ¬ (q = 48 ∨ q = 49) → M1 q j = M q j) → post (some (0, 0, lo, hi, v)) M1) : xa_C (xl_I b) A h0 (d + 8) 72 [(2, 0, 0, 0, 0), (0, 0, l1, u1, x1), (0, 0, l2, u2, x2)] M post := by
  refine xa_C_arg [(2, 0, 0, 0, 0), (0, 0, (-2147483648), 2147483647, x1), (0, 0, (-2147483648), 2147483647, x2)] (xa_svR (xa_svI (fun _ _ _ _ => by omega) (xa_svI (fun _ _ _ _ => by omega) (xa_sv0)))) ?_
  refine xa_meth (Q0 := (12, 1, false, 0, 0, 11)) (by decide +kernel) ⟨rfl, rfl⟩ (full := s_c_72) rfl rfl ?_
  intro hM hv Q hgo
  refine hgo.1 84 [] 0 _ _ _ ?_
  show xa_C (xl_I b) A h0 _ 14 [(0, 0, (-2147483648), 2147483647, x1)] M _
  refine cx_14 ?_ ?_ ?_
  · intro (i1 : x1 < 0)
    show post (some (0, 0, (-1), (-1), (-1))) M
    exact k _ _ _ _ (tw_Pn (by omega)) (fun _ _ _ _ => rfl)
  · intro (i2 : 0 ≤ x1) (i3 : 10 ≤ x1)
    show post (some (0, 0, (-1), (-1), (-1))) M
    exact k _ _ _ _ (tw_Pn (by omega)) (fun _ _ _ _ => rfl)
  · intro (i4 : 0 ≤ x1) (i5 : x1 < 10)
    show xa_C (xl_I b) A h0 _ 14 [(0, 0, (-2147483648), 2147483647, x2)] M _
    refine cx_14 ?_ ?_ ?_
    · intro (i6 : x2 < 0)
      show post (some (0, 0, (-1), (-1), (-1))) M
      exact k _ _ _ _ (Or.inl ⟨by omega, rfl⟩) (fun _ _ _ _ => rfl)
    · intro (i7 : 0 ≤ x2) (i8 : 10 ≤ x2)
      show post (some (0, 0, (-1), (-1), (-1))) M
      exact k _ _ _ _ (Or.inl ⟨by omega, rfl⟩) (fun _ _ _ _ => rfl)
    · intro (i9 : 0 ≤ x2) (i10 : x2 < 10)
      show xa_C (xl_I b) A h0 _ 46 [(2, 0, 0, 0, 0), (0, 0, (-2147483648), 2147483647, x1)] M _
      refine cx_46t hM0 hC0 ?_
      intro v101 M102 (i11 : tu_S N0 x1 v101 M102) (i12 : tu_G M M102)
      refine And.intro ?_ ?_
      · intro (c13 : v101 = 0)
        rw [c13] at i11
        have ax := (tu_S0 i11).1
        show xa_C (xl_I b) A h0 _ 50 [(2, 12, 0, 0, 0), (0, 0, (-2147483648), 2147483647, x2)] M102 _
        refine cx_50_12 (show 0 ≤ x2 ∧ x2 < 10 by omega) ?_ ?_
        · intro (i14 : (M102 14 x2) = 0)
          show post (some (0, 0, (-2), (-2), (-2))) M102
          refine k _ _ _ _ (Or.inr ⟨by omega, tw_A_to i11 (fun N _ hR h7 h8 _ => ?_)⟩) (fun q j h1 h2 => i12 q j h1)
          have z := tu_z hR (show 0 ≤ x2 by omega) (by omega)
          exact Or.inl ⟨by omega, rfl⟩
        · intro (i15 : ¬ (M102 14 x2) = 0)
          obtain ⟨ax, N9, t1, t2, t3, t4, t5, t6, t7⟩ := tu_S0 i11
          show xa_C (xl_I b) A h0 _ 69 [(2, 12, 0, 0, 0), (0, 0, (-2147483648), 2147483647, x1)] M102 _
          refine cx_69t (show 0 ≤ x1 ∧ x1 < 10 by omega) t5 ?_
          intro r103 (i16 : (r103 = 1 ∧ tu_L M102 x1) ∨ (r103 = 0 ∧ ¬ tu_L M102 x1))
          refine And.intro ?_ ?_
          · intro (c17 : ¬ r103 = 0)
            show post (some (0, 0, (-5), (-5), (-5))) M102
            refine k _ _ _ _ (Or.inr ⟨by omega, tw_A_to i11 (fun N _ hR h7 h8 _ => ?_)⟩) (fun q j h1 h2 => i12 q j h1)
            obtain ⟨b7, b8⟩ := tu_at hR (show 0 ≤ x2 ∧ x2 < 10 by omega) i15
            rcases i16 with ⟨-, e⟩ | ⟨e, -⟩
            · exact Or.inr (Or.inl ⟨b7, Or.inl ((tw_Lc h8).mp e), rfl⟩)
            · exfalso
              omega
          · intro (c17 : r103 = 0)
            have nLa : ¬ tu_L M102 x1 := by
              rcases i16 with ⟨e, -⟩ | ⟨-, e⟩
              · omega
              · exact e
            show xa_C (xl_I b) A h0 _ 69 [(2, 12, 0, 0, 0), (0, 0, (-2147483648), 2147483647, x2)] M102 _
            refine cx_69t (show 0 ≤ x2 ∧ x2 < 10 by omega) (tu_pq t2 (by omega) (by omega)).1 ?_
            intro r104 (i18 : (r104 = 1 ∧ tu_L M102 x2) ∨ (r104 = 0 ∧ ¬ tu_L M102 x2))
            refine And.intro ?_ ?_
            · intro (c19 : r104 = 0)
              have nLb : ¬ tu_L M102 x2 := by
                rcases i18 with ⟨e, -⟩ | ⟨-, e⟩
                · omega
                · exact e
              have pb := (tu_pq t2 (show 0 ≤ x2 ∧ x2 < 10 by omega) i15).2
              have hw := tw_w nLa nLb t6.1 pb.1
              show xa_C (xl_I b) A h0 _ 54 [(2, 12, 0, 0, 0), (0, 0, (-2147483648), 2147483647, x1)] M102 _
              refine cx_54_12 (show 0 ≤ x1 ∧ x1 < 10 by omega) ?_
              show xa_C (xl_I b) A h0 _ 51 [(2, 12, 0, 0, 0), (0, 0, (-2147483648), 2147483647, x2)] M102 _
              refine cx_51_12 (show 0 ≤ x2 ∧ x2 < 10 by omega) ?_
              show xa_C (xl_I b) A h0 _ 54 [(2, 12, 0, 0, 0), (0, 0, (-2147483648), 2147483647, x2)] M102 _
              refine cx_54_12 (show 0 ≤ x2 ∧ x2 < 10 by omega) ?_
              show xa_C (xl_I b) A h0 _ 51 [(2, 12, 0, 0, 0), (0, 0, (-2147483648), 2147483647, x1)] M102 _
              refine cx_51_12 (show 0 ≤ x1 ∧ x1 < 10 by omega) ?_
              show xa_C (xl_I b) A h0 _ 51 [(2, 12, 0, 0, 0), (0, 0, (-2147483648), 2147483647, x1)] M102 _
              refine cx_51_12 (show 0 ≤ x1 ∧ x1 < 10 by omega) ?_
              show xa_C (xl_I b) A h0 _ 51 [(2, 12, 0, 0, 0), (0, 0, (-2147483648), 2147483647, x2)] M102 _
              refine cx_51_12 (show 0 ≤ x2 ∧ x2 < 10 by omega) ?_
              show xa_C (xl_I b) A h0 _ 55 [(1, 0, (-9223372036854775808), 9223372036854775807, xa_w64 ((xa_w64 ((M102 13 x1) * (M102 14 x2))) - (xa_w64 ((M102 13 x2) * (M102 14 x1))))), (1, 0, (-9223372036854775808), 9223372036854775807, xa_w64 ((M102 14 x1) * (M102 14 x2)))] M102 _
              refine cx_55y (by omega) (by omega) ?_
              intro g105 (i20 : g105 = (Int.gcd (xa_w64 ((xa_w64 ((M102 13 x1) * (M102 14 x2))) - (xa_w64 ((M102 13 x2) * (M102 14 x1))))) (xa_w64 ((M102 14 x1) * (M102 14 x2))) : Int)) (i21 : 1 ≤ g105) (i22 : g105 ≤ 9223372036854775807)
              show xa_C (xl_I b) A h0 _ 21 [(1, 0, (-9223372036854775808), 9223372036854775807, xa_w64 ((M102 14 x1) * (M102 14 x2))), (1, 0, 0, 9223372036854775807, g105)] M102 _
              refine cx_21t rfl (show 1 ≤ g105 ∧ g105 ≤ 9223372036854775807 by omega) ?_
              refine And.intro ?_ ?_
              · intro (c23 : ((xa_w64 ((M102 14 x1) * (M102 14 x2))).tdiv g105) ≤ 100000)
                show xa_C (xl_I b) A h0 _ 59 [(2, 48, 0, 0, 0)] M102 _
                refine cx_59_48 ?_
                show xa_C (xl_I b) A h0 _ 21 [(1, 0, (-9223372036854775808), 9223372036854775807, xa_w64 ((xa_w64 ((M102 13 x1) * (M102 14 x2))) - (xa_w64 ((M102 13 x2) * (M102 14 x1))))), (1, 0, 0, 9223372036854775807, g105)] (xa_up M102 48 1 0) _
                refine cx_21t rfl (show 1 ≤ g105 ∧ g105 ≤ 9223372036854775807 by omega) ?_
                show xa_C (xl_I b) A h0 _ 60 [(2, 48, 0, 0, 0), (1, 0, (-9223372036854775808), 9223372036854775807, (xa_w64 ((xa_w64 ((M102 13 x1) * (M102 14 x2))) - (xa_w64 ((M102 13 x2) * (M102 14 x1))))).tdiv g105)] (xa_up M102 48 1 0) _
                refine cx_60a (by show (0 : Int) ≤ 0; omega) ?_
                intro M106 (i24 : ∀ (q : Nat) (j : Int), ¬ (q = 48 ∨ q = 49) → M106 q j = (xa_up M102 48 1 0) q j) (i25 : (0 : Int) ≤ M106 48 1)
                show post (some (0, 0, (-2147483648), 2147483647, xa_w32 ((xa_w64 ((M102 14 x1) * (M102 14 x2))).tdiv g105))) M106
                refine k _ _ _ _ (Or.inr ⟨by omega, tw_A_to i11 (fun N _ hR h7 h8 _ => ?_)⟩) (fun q j h1 h2 => (i24 q j h2).trans ((xa_up_ne (by omega)).trans (i12 q j h1)))
                obtain ⟨b7, b8⟩ := tu_at hR (show 0 ≤ x2 ∧ x2 < 10 by omega) i15
                refine Or.inr (Or.inr ⟨b7, fun h => h.elim (fun e => nLa ((tw_Lc h8).mpr e)) (fun e => nLb ((tw_Lc b8).mpr e)), ?_⟩)
                rw [← h8.1, ← h8.2, ← b8.1, ← b8.2]
                rw [hw.2.2.1, hw.2.1] at i20
                rw [hw.2.1] at c23
                rw [hw.2.1]
                exact tw_y2 hw.2.2.2.1.1 i20 c23
              · intro (c23 : 100000 < ((xa_w64 ((M102 14 x1) * (M102 14 x2))).tdiv g105))
                show post (some (0, 0, (-6), (-6), (-6))) M102
                refine k _ _ _ _ (Or.inr ⟨by omega, tw_A_to i11 (fun N _ hR h7 h8 _ => ?_)⟩) (fun q j h1 h2 => i12 q j h1)
                obtain ⟨b7, b8⟩ := tu_at hR (show 0 ≤ x2 ∧ x2 < 10 by omega) i15
                refine Or.inr (Or.inr ⟨b7, fun h => h.elim (fun e => nLa ((tw_Lc h8).mpr e)) (fun e => nLb ((tw_Lc b8).mpr e)), ?_⟩)
                rw [← h8.1, ← h8.2, ← b8.1, ← b8.2]
                rw [hw.2.2.1, hw.2.1] at i20
                rw [hw.2.1] at c23
                exact tw_y6 i20 c23
            · intro (c19 : ¬ r104 = 0)
              show post (some (0, 0, (-5), (-5), (-5))) M102
              refine k _ _ _ _ (Or.inr ⟨by omega, tw_A_to i11 (fun N _ hR h7 h8 _ => ?_)⟩) (fun q j h1 h2 => i12 q j h1)
              obtain ⟨b7, b8⟩ := tu_at hR (show 0 ≤ x2 ∧ x2 < 10 by omega) i15
              rcases i18 with ⟨-, e⟩ | ⟨e, -⟩
              · exact Or.inr (Or.inl ⟨b7, Or.inr ((tw_Lc b8).mp e), rfl⟩)
              · exfalso
                omega
      · intro (c13 : ¬ v101 = 0)
        show post (some (0, 0, (-5), 0, v101)) M102
        exact k _ _ _ _ (Or.inr ⟨by omega, tw_A_of i11 (fun e => absurd e (by omega))⟩) (fun q j h1 h2 => i12 q j h1)
