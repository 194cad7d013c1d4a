-- trains, on both sides
set_option maxRecDepth 20000
/-- what the fourth of the teeth is -/
def tr_r (u v a b c r : Int) : Prop := (¬ a * b * v % (c * u) = 0 ∧ r = 0) ∨ (a * b * v % (c * u) = 0 ∧ r ≤ 1000 ∧ r ≤ a * b * v / (c * u) ∧ (r = 1000 ∨ r = a * b * v / (c * u)))
/-- does it count -/
def sh_q (x L H u v a b c : Int) : Int := if x = 1 then sh_h u v a c else sh_i L H (sh_d u v a b) c
def sh_w (x L H u v a b : Int) : Int := sh_s (sh_q x L H u v a b) L (H + 1 - L).toNat
def sh_y (x L H u v a : Int) : Int := if x = 1 then sh_g L H u v a else sh_ta L H u v a
theorem sh_q1 {x L H u v a b : Int} (h : x = 1) : sh_q x L H u v a b = sh_h u v a := funext (fun _ => if_pos h)
theorem sh_q2 {x L H u v a b : Int} (h : ¬ x = 1) : sh_q x L H u v a b = sh_i L H (sh_d u v a b) := funext (fun _ => if_neg h)
theorem tr_a {x L H u v a b c r : Int} (hu : 1 ≤ u) (hL : 1 ≤ L) (hH : H ≤ 400) (hc : L ≤ c) (h : ¬ x = 1) (e : tr_r u v a b c r) (i : c ≤ r ∧ r ≤ H) : sh_q x L H u v a b c = 1 := by
  rw [sh_q2 h]
  refine sh_i1 ((sh_fe hu hL hc).mpr ?_)
  rcases e with ⟨e1, e2⟩ | ⟨e1, e2, e3, e4⟩
  · exfalso
    omega
  · exact ⟨e1, by omega, by omega⟩
theorem tr_b {x L H u v a b c r : Int} (hu : 1 ≤ u) (hL : 1 ≤ L) (hH : H ≤ 400) (hc : L ≤ c) (h : ¬ x = 1) (e : tr_r u v a b c r) (i : ¬ (c ≤ r ∧ r ≤ H)) : sh_q x L H u v a b c = 0 := by
  rw [sh_q2 h]
  refine sh_i0 (fun g => i ?_)
  obtain ⟨g1, g2, g3⟩ := (sh_fe hu hL hc).mp g
  rcases e with ⟨e1, e2⟩ | ⟨e1, e2, e3, e4⟩
  · exact absurd g1 e1
  · omega
theorem tr_c {x L H u v a b c r : Int} (h : x = 1) (hb : b = 1) (e : tr_r u v a b c r) (i : r = 1) : sh_q x L H u v a b c = 1 := by
  rw [sh_q1 h]
  subst hb
  refine if_pos ?_
  rcases e with ⟨e1, e2⟩ | ⟨e1, e2, e3, e4⟩
  · exfalso
    omega
  · exact ⟨e1, by omega⟩
theorem tr_d {x L H u v a b c r : Int} (h : x = 1) (hb : b = 1) (e : tr_r u v a b c r) (i : ¬ r = 1) : sh_q x L H u v a b c = 0 := by
  rw [sh_q1 h]
  subst hb
  refine if_neg (fun g => i ?_)
  obtain ⟨g1, g2⟩ := g
  rcases e with ⟨e1, e2⟩ | ⟨e1, e2, e3, e4⟩
  · exact absurd g1 e1
  · omega
theorem sh_wy1 {x y L H u v a : Int} (h : x = 1) (hy : y = 2) (hu : 1 ≤ u) (hL : 1 ≤ L) (ha : 1 ≤ a) (hv : 1 ≤ v) : sh_s (sh_w x L H u v a) 1 (y - 1).toNat = sh_y x L H u v a := by
  have e : sh_y x L H u v a = sh_g L H u v a := if_pos h
  rw [e, hy, sh_ge hu hL ha hv, show ((2 : Int) - 1).toNat = 0 + 1 by decide, sh_s1]
  show 0 + sh_s (sh_q x L H u v a (1 + 0)) L (H + 1 - L).toNat = _
  rw [sh_q1 h]
  omega
theorem sh_wy2 {x y L H u v a : Int} (h : ¬ x = 1) (hy : y = H + 1) : sh_s (sh_w x L H u v a) a (y - a).toNat = sh_y x L H u v a := by
  have e : sh_y x L H u v a = sh_ta L H u v a := if_neg h
  rw [e, hy]
  unfold sh_ta
  refine sh_e _ (fun c _ _ => ?_)
  unfold sh_w sh_tb
  rw [sh_q2 h]
/-- what trains answers -/
def tr_P (L H n u v x y r : Int) : Prop := (¬ (0 ≤ x ∧ x < n ∧ 1 ≤ y ∧ y ≤ 2) ∧ r = -1) ∨ (0 ≤ x ∧ x < n ∧ ((y = 1 ∧ r = sh_t1 L H u v) ∨ (y = 2 ∧ ((60 < H - L ∧ r = -4) ∨ (H - L ≤ 60 ∧ r = sh_t2 L H u v)))))
theorem tr_one {L H n u v x y r r' : Int} (h : tr_P L H n u v x y r) (h' : tr_P L H n u v x y r') : r = r' := by
  unfold tr_P at h h'
  omega
theorem tr_Pi {L H n u v x y r : Int} (h1 : 0 ≤ x) (h2 : x < n) (h3 : 1 ≤ y ∧ y ≤ 2) (h4 : ¬ y = 1 → H - L ≤ 60) (h : r = sh_s (sh_y y L H u v) L (H + 1 - L).toNat) : tr_P L H n u v x y r := by
  by_cases e : y = 1
  · have f : sh_y y L H u v = sh_g L H u v := funext (fun _ => if_pos e)
    rw [f] at h
    exact Or.inr ⟨h1, h2, Or.inl ⟨e, h⟩⟩
  · have f : sh_y y L H u v = sh_ta L H u v := funext (fun _ => if_neg e)
    rw [f] at h
    exact Or.inr ⟨h1, h2, Or.inr ⟨by omega, Or.inr ⟨h4 e, h⟩⟩⟩
theorem cx_125_32 {b : Bool} {A : Nat → Nat} {h0 : g_H} {d : Nat} {M : xa_M} {post : Option xa_V → xa_M → Prop} (k1 : (((M 32 1) - (M 32 0)) ≤ 60) → post (some (0, 0, 0, 0, 0)) M) (k2 : (60 < ((M 32 1) - (M 32 0))) → post (some (0, 0, 1, 1, 1)) M) : xa_C (xl_I b) A h0 (d + 1) 125 [(2, 32, 0, 0, 0)] M post := by
  refine xa_C_arg [(2, 32, 0, 0, 0)] (xa_svR (xa_sv0)) ?_
  refine xa_meth (Q0 := (1, 2, false, 0, 0, 7)) (by decide +kernel) ⟨rfl, rfl⟩ (full := s_c_125) rfl rfl ?_
  intro hM hv Q hgo
  refine hgo.1 14 [] 0 _ _ _ ?_
  refine And.intro ?_ ?_
  · intro (c1 : ((M 32 1) - (M 32 0)) ≤ 60)
    show post (some (0, 0, 0, 0, 0)) M
    exact k1 c1
  · intro (c1 : 60 < ((M 32 1) - (M 32 0)))
    show post (some (0, 0, 1, 1, 1)) M
    exact k2 c1
theorem cw_122_50 {A : Nat → Nat} {h0 : g_H} {d : Nat} {M : xa_M} {post : Option xa_V → xa_M → Prop} {l1 u1 l2 u2 x1 x2 : Int} (hL : 10 ≤ M 32 0 ∧ M 32 0 ≤ M 32 1 ∧ M 32 1 ≤ 400) (hp : 0 ≤ M 50 4 ∧ M 50 4 ≤ 8) (hUU : ∀ i : Int, 0 ≤ i → i < M 50 4 → (1 ≤ M 51 i ∧ M 51 i ≤ 2000) ∧ (1 ≤ M 52 i ∧ M 52 i ≤ 2000)) (k : ∀ (r : Int) (M1 : xa_M), tr_P (M 32 0) (M 32 1) (M 50 4) (M 51 x1) (M 52 x1) x1 x2 r → (∀ (q : Nat) (j : Int), ¬ (q = 48 ∨ q = 49) → M1 q j = M q j) → post (some (0, 0, (-4), 300000, r)) M1) : xa_C (xl_I false) A h0 (d + 4) 122 [(2, 0, 0, 0, 0), (0, 0, l1, u1, x1), (0, 0, l2, u2, x2)] M post := by
  refine xa_C_wk ?_
  refine xa_C_arg [(2, 0, 0, 0, 0), (0, 0, (-2147483648), 2147483647, x1), (0, 0, (-2147483648), 2147483647, x2)] (xa_svR (xa_svI (fun _ _ _ _ => by omega) (xa_svI (fun _ _ _ _ => by omega) xa_sv0))) ?_
  refine xa_meth (Q0 := (7, 1, false, 0, 0, 11)) (by decide +kernel) ⟨rfl, rfl⟩ (full := s_c_122) rfl rfl ?_
  intro hM hv Q hgo
  have hu := hUU x1
  refine hgo.1 40 [] 0 _ _ _ ?_
  show xa_C (xl_I false) A h0 _ 87 [(2, 50, 0, 0, 0), (0, 0, (-2147483648), 2147483647, x1)] M _
  refine cx_87_50 ?_ ?_ ?_
  · intro (i1 : x1 < 0)
    show xa_wk post (some (0, 0, (-1), (-1), (-1))) M
    exact xa_wkI (-1) rfl (fun _ _ => by omega) (k _ _ (by unfold tr_P; omega) (fun _ _ _ => rfl))
  · intro (i2 : 0 ≤ x1) (i3 : (M 50 4) ≤ x1)
    show xa_wk post (some (0, 0, (-1), (-1), (-1))) M
    exact xa_wkI (-1) rfl (fun _ _ => by omega) (k _ _ (by unfold tr_P; omega) (fun _ _ _ => rfl))
  · intro (i4 : 0 ≤ x1) (i5 : x1 < (M 50 4))
    refine And.intro ?_ ?_
    · intro (c6 : x2 < 1)
      show xa_wk post (some (0, 0, (-1), (-1), (-1))) M
      exact xa_wkI (-1) rfl (fun _ _ => by omega) (k _ _ (by unfold tr_P; omega) (fun _ _ _ => rfl))
    · intro (c6 : 1 ≤ x2)
      refine And.intro ?_ ?_
      · intro (c7 : x2 ≤ 2)
        show xa_C (xl_I false) A h0 _ 65 [(2, 50, 0, 0, 0), (0, 0, (-2147483648), 2147483647, x1)] M _
        refine cx_65_50 (show 0 ≤ x1 ∧ x1 < 8 by omega) ?_
        show xa_C (xl_I false) A h0 _ 64 [(2, 50, 0, 0, 0), (0, 0, (-2147483648), 2147483647, x1)] M _
        refine cx_64_50 (show 0 ≤ x1 ∧ x1 < 8 by omega) ?_
        refine And.intro ?_ ?_
        · intro (c8 : ¬ x2 = 1)
          show xa_C (xl_I false) A h0 _ 125 [(2, 32, 0, 0, 0)] M _
          refine cx_125_32 ?_ ?_
          · intro (i9 : ((M 32 1) - (M 32 0)) ≤ 60)
            show xa_C (xl_I false) A h0 _ 126 [(2, 32, 0, 0, 0), (1, 0, (-2147483648), 2147483647, M 51 x1), (1, 0, (-2147483648), 2147483647, M 52 x1), (2, 48, 0, 0, 0)] M _
            refine cx_126f hL (by omega) (by omega) (by omega) ?_
            intro M119 (i10 : ∀ (q : Nat) (j : Int), ¬ (q = 48 ∨ q = 49) → M119 q j = M q j)
            show xa_wk post (some (0, 0, 0, 300000, sh_t2 (M 32 0) (M 32 1) (M 51 x1) (M 52 x1))) M119
            exact xa_wkI _ rfl (fun _ _ => by omega) (k _ _ (Or.inr ⟨by omega, by omega, Or.inr ⟨by omega, Or.inr ⟨by omega, rfl⟩⟩⟩) i10)
          · intro (i11 : 60 < ((M 32 1) - (M 32 0)))
            show xa_wk post (some (0, 0, (-4), (-4), (-4))) M
            exact xa_wkI (-4) rfl (fun _ _ => by omega) (k _ _ (by unfold tr_P; omega) (fun _ _ _ => rfl))
        · intro (c8 : x2 = 1)
          show xa_C (xl_I false) A h0 _ 123 [(2, 32, 0, 0, 0), (1, 0, (-2147483648), 2147483647, M 51 x1), (1, 0, (-2147483648), 2147483647, M 52 x1), (2, 48, 0, 0, 0)] M _
          refine cx_123f hL (by omega) (by omega) ?_
          intro M120 (i12 : ∀ (q : Nat) (j : Int), ¬ (q = 48 ∨ q = 49) → M120 q j = M q j)
          show xa_wk post (some (0, 0, 0, 400, sh_t1 (M 32 0) (M 32 1) (M 51 x1) (M 52 x1))) M120
          exact xa_wkI _ rfl (fun _ _ => by omega) (k _ _ (Or.inr ⟨by omega, by omega, Or.inl ⟨by omega, rfl⟩⟩) i12)
      · intro (c7 : 2 < x2)
        show xa_wk post (some (0, 0, (-1), (-1), (-1))) M
        exact xa_wkI (-1) rfl (fun _ _ => by omega) (k _ _ (by unfold tr_P; omega) (fun _ _ _ => rfl))
theorem cw_122_55 {A : Nat → Nat} {h0 : g_H} {d : Nat} {M : xa_M} {post : Option xa_V → xa_M → Prop} {l1 u1 l2 u2 x1 x2 : Int} (hL : 10 ≤ M 32 0 ∧ M 32 0 ≤ M 32 1 ∧ M 32 1 ≤ 400) (hp : 0 ≤ M 55 4 ∧ M 55 4 ≤ 8) (hUU : ∀ i : Int, 0 ≤ i → i < M 55 4 → (1 ≤ M 56 i ∧ M 56 i ≤ 2000) ∧ (1 ≤ M 57 i ∧ M 57 i ≤ 2000)) (k : ∀ (r : Int) (M1 : xa_M), tr_P (M 32 0) (M 32 1) (M 55 4) (M 56 x1) (M 57 x1) x1 x2 r → (∀ (q : Nat) (j : Int), ¬ (q = 48 ∨ q = 49) → M1 q j = M q j) → post (some (0, 0, (-4), 300000, r)) M1) : xa_C (xl_I true) A h0 (d + 4) 122 [(2, 0, 0, 0, 0), (0, 0, l1, u1, x1), (0, 0, l2, u2, x2)] M post := by
  refine xa_C_wk ?_
  refine xa_C_arg [(2, 0, 0, 0, 0), (0, 0, (-2147483648), 2147483647, x1), (0, 0, (-2147483648), 2147483647, x2)] (xa_svR (xa_svI (fun _ _ _ _ => by omega) (xa_svI (fun _ _ _ _ => by omega) xa_sv0))) ?_
  refine xa_meth (Q0 := (7, 1, false, 0, 0, 11)) (by decide +kernel) ⟨rfl, rfl⟩ (full := s_c_122) rfl rfl ?_
  intro hM hv Q hgo
  have hu := hUU x1
  refine hgo.1 40 [] 0 _ _ _ ?_
  show xa_C (xl_I true) A h0 _ 87 [(2, 55, 0, 0, 0), (0, 0, (-2147483648), 2147483647, x1)] M _
  refine cx_87_55 ?_ ?_ ?_
  · intro (i1 : x1 < 0)
    show xa_wk post (some (0, 0, (-1), (-1), (-1))) M
    exact xa_wkI (-1) rfl (fun _ _ => by omega) (k _ _ (by unfold tr_P; omega) (fun _ _ _ => rfl))
  · intro (i2 : 0 ≤ x1) (i3 : (M 55 4) ≤ x1)
    show xa_wk post (some (0, 0, (-1), (-1), (-1))) M
    exact xa_wkI (-1) rfl (fun _ _ => by omega) (k _ _ (by unfold tr_P; omega) (fun _ _ _ => rfl))
  · intro (i4 : 0 ≤ x1) (i5 : x1 < (M 55 4))
    refine And.intro ?_ ?_
    · intro (c6 : x2 < 1)
      show xa_wk post (some (0, 0, (-1), (-1), (-1))) M
      exact xa_wkI (-1) rfl (fun _ _ => by omega) (k _ _ (by unfold tr_P; omega) (fun _ _ _ => rfl))
    · intro (c6 : 1 ≤ x2)
      refine And.intro ?_ ?_
      · intro (c7 : x2 ≤ 2)
        show xa_C (xl_I true) A h0 _ 65 [(2, 55, 0, 0, 0), (0, 0, (-2147483648), 2147483647, x1)] M _
        refine cx_65_55 (show 0 ≤ x1 ∧ x1 < 8 by omega) ?_
        show xa_C (xl_I true) A h0 _ 64 [(2, 55, 0, 0, 0), (0, 0, (-2147483648), 2147483647, x1)] M _
        refine cx_64_55 (show 0 ≤ x1 ∧ x1 < 8 by omega) ?_
        refine And.intro ?_ ?_
        · intro (c8 : ¬ x2 = 1)
          show xa_C (xl_I true) A h0 _ 125 [(2, 32, 0, 0, 0)] M _
          refine cx_125_32 ?_ ?_
          · intro (i9 : ((M 32 1) - (M 32 0)) ≤ 60)
            show xa_C (xl_I true) A h0 _ 126 [(2, 32, 0, 0, 0), (1, 0, (-2147483648), 2147483647, M 56 x1), (1, 0, (-2147483648), 2147483647, M 57 x1), (2, 48, 0, 0, 0)] M _
            refine cx_126f hL (by omega) (by omega) (by omega) ?_
            intro M121 (i10 : ∀ (q : Nat) (j : Int), ¬ (q = 48 ∨ q = 49) → M121 q j = M q j)
            show xa_wk post (some (0, 0, 0, 300000, sh_t2 (M 32 0) (M 32 1) (M 56 x1) (M 57 x1))) M121
            exact xa_wkI _ rfl (fun _ _ => by omega) (k _ _ (Or.inr ⟨by omega, by omega, Or.inr ⟨by omega, Or.inr ⟨by omega, rfl⟩⟩⟩) i10)
          · intro (i11 : 60 < ((M 32 1) - (M 32 0)))
            show xa_wk post (some (0, 0, (-4), (-4), (-4))) M
            exact xa_wkI (-4) rfl (fun _ _ => by omega) (k _ _ (by unfold tr_P; omega) (fun _ _ _ => rfl))
        · intro (c8 : x2 = 1)
          show xa_C (xl_I true) A h0 _ 123 [(2, 32, 0, 0, 0), (1, 0, (-2147483648), 2147483647, M 56 x1), (1, 0, (-2147483648), 2147483647, M 57 x1), (2, 48, 0, 0, 0)] M _
          refine cx_123f hL (by omega) (by omega) ?_
          intro M122 (i12 : ∀ (q : Nat) (j : Int), ¬ (q = 48 ∨ q = 49) → M122 q j = M q j)
          show xa_wk post (some (0, 0, 0, 400, sh_t1 (M 32 0) (M 32 1) (M 56 x1) (M 57 x1))) M122
          exact xa_wkI _ rfl (fun _ _ => by omega) (k _ _ (Or.inr ⟨by omega, by omega, Or.inl ⟨by omega, rfl⟩⟩) i12)
      · intro (c7 : 2 < x2)
        show xa_wk post (some (0, 0, (-1), (-1), (-1))) M
        exact xa_wkI (-1) rfl (fun _ _ => by omega) (k _ _ (by unfold tr_P; omega) (fun _ _ _ => rfl))
theorem cw_122 {b : Bool} {A : Nat → Nat} {h0 : g_H} {d : Nat} {M : xa_M} {post : Option xa_V → xa_M → Prop} {l1 u1 l2 u2 x1 x2 : Int} (hL : 10 ≤ M 32 0 ∧ M 32 0 ≤ M 32 1 ∧ M 32 1 ≤ 400) (hp : 0 ≤ M (bk_p b) 4 ∧ M (bk_p b) 4 ≤ 8) (hUU : ∀ i : Int, 0 ≤ i → i < M (bk_p b) 4 → (1 ≤ M (bk_p b + 1) i ∧ M (bk_p b + 1) i ≤ 2000) ∧ (1 ≤ M (bk_p b + 2) i ∧ M (bk_p b + 2) i ≤ 2000)) (k : ∀ (r : Int) (M1 : xa_M), tr_P (M 32 0) (M 32 1) (M (bk_p b) 4) (M (bk_p b + 1) x1) (M (bk_p b + 2) x1) x1 x2 r → (∀ (q : Nat) (j : Int), ¬ (q = 48 ∨ q = 49) → M1 q j = M q j) → post (some (0, 0, (-4), 300000, r)) M1) : xa_C (xl_I b) A h0 (d + 4) 122 [(2, 0, 0, 0, 0), (0, 0, l1, u1, x1), (0, 0, l2, u2, x2)] M post := by
  cases b
  · exact cw_122_50 hL hp hUU k
  · exact cw_122_55 hL hp hUU k
theorem ct_fourthF {A : Nat → Nat} {h0 : g_H} {d : Nat} {M : xa_M} {post : Option xa_V → xa_M → Prop} {l1 u1 l2 u2 l3 u3 l4 u4 : Int} {p a b c : Int} (hI : xm_Inv M) (hp0 : 0 ≤ p) (hp1 : p < M 60 11) (ha0 : 1 ≤ a) (ha1 : a ≤ 400) (hb0 : 1 ≤ b) (hb1 : b ≤ 400) (hc0 : 10 ≤ c) (hc1 : c ≤ 400) (k : ∀ r : Int, (0 ≤ r ∧ r ≤ 1000) → tr_r (M 70 p) (M 71 p) a b c r → post (some (0, 0, 0, 1000, r)) M) : xa_C xm_I A h0 (d + 2) 258 [(2, 60, 0, 0, 0), (0, 0, l1, u1, p), (0, 0, l2, u2, a), (0, 0, l3, u3, b), (0, 0, l4, u4, c)] M post := by
  refine xa_C_asm (fun hM0 _ => ?_)
  have b110 := xm_f11 hM0
  refine xa_C_arg [(2, 60, 0, 0, 0), (0, 0, 0, 7, p), (0, 0, 1, 400, a), (0, 0, 1, 400, b), (0, 0, 10, 400, c)] (xa_svR (xa_svI (fun _ _ _ _ => by omega) (xa_svI (fun _ _ _ _ => by omega) (xa_svI (fun _ _ _ _ => by omega) (xa_svI (fun _ _ _ _ => by omega) xa_sv0))))) (xa_C_wk ?_)
  refine xa_meth (Q0 := (9, 1, false, 0, 0, 12)) (by decide +kernel) ⟨rfl, rfl⟩ (full := s_c_258) rfl rfl ?_
  intro hM hv Q hgo
  have b11 := xm_f11 hM
  have hp := hI.2.2.1 p hp0 hp1
  have t70 := xm_t70 hM p hp0 (by omega)
  have hc := xm_mulp (p := c) (q := M 70 p) (a := 400) (b := 2000) (by omega) (by omega) (by omega) (by omega)
  refine hgo.1 38 [] 0 _ _ _ ?_
  refine And.intro (show 0 < (c * (M 70 p)) by omega) ?_
  refine And.intro ?_ ?_
  · intro (c1 : ¬ (((a * b) * (M 71 p)) % (c * (M 70 p))) = 0)
    show xa_wk post (some (0, 0, 0, 0, 0)) M
    exact xa_wkI 0 rfl (fun _ _ => by omega) (k _ (by omega) (Or.inl ⟨c1, rfl⟩))
  · intro (c1 : (((a * b) * (M 71 p)) % (c * (M 70 p))) = 0)
    refine And.intro (show 0 < (c * (M 70 p)) by omega) ?_
    show xa_C xm_I A h0 _ 26 [(1, 0, 1000, 1000, 1000), (1, 0, 0, 320000000, ((a * b) * (M 71 p)) / (c * (M 70 p)))] M _
    refine ct_minL 0 1000 (by decide) (by decide) (by decide) (fun r2 br2 er2 => ?_)
    show xa_wk post (some (0, 0, 0, 1000, r2)) M
    exact xa_wkI r2 rfl (fun _ _ => by omega) (k _ (by omega) (Or.inr ⟨c1, er2⟩))

theorem ms_trainsF {A : Nat → Nat} {h0 : g_H} {d : Nat} {M : xa_M} {post : Option xa_V → xa_M → Prop} {l1 u1 l2 u2 : Int} {a b : Int} (hI : xm_Inv M) (k : ∀ (lo hi r : Int) (M1 : xa_M), tr_P (M 60 15) (M 60 16) (M 60 11) (M 70 a) (M 71 a) a b r → xm_cor M M1 → post (some (0, 0, lo, hi, r)) M1) : xa_C xm_I A h0 (d + 3) 257 [(2, 60, 0, 0, 0), (0, 0, l1, u1, a), (0, 0, l2, u2, b)] M post := by
  refine xa_C_arg [(2, 60, 0, 0, 0), (0, 0, (-2147483648), 2147483647, a), (0, 0, (-2147483648), 2147483647, b)] (xa_svR (xa_svI (fun _ _ _ _ => by omega) (xa_svI (fun _ _ _ _ => by omega) xa_sv0))) ?_
  refine xa_meth (Q0 := (10, 1, false, 0, 0, 12)) (by decide +kernel) ⟨rfl, rfl⟩ (full := s_c_257) rfl rfl ?_
  intro hM hv Q hgo
  have b0 := xm_f0 hM
  have b6 := xm_f6 hM
  have b61 := xm_f61 hM
  have b11 := xm_f11 hM
  have b15 := xm_f15 hM
  have b16 := xm_f16 hM
  have hlh := hI.2.2.2.1
  have loop3 : ∀ (n : Nat) (x5 x3 x2 : Int) (M1 : xa_M), 0 ≤ x5 ∧ x5 ≤ 4 → 1 ≤ x2 ∧ x2 ≤ 2 → xm_cor M M1 → M1 60 20 ≤ x5 → tr_P (M 60 15) (M 60 16) (M 60 11) (M 70 a) (M 71 a) a b x3 → 4 - x5 < (n : Int) → Q 249 [(5, (0, 0, 0, 4, x5)), (3, (0, 0, (-2147483648), 2147483647, x3)), (2, (0, 0, 1, 2, x2)), (0, (2, 60, 0, 0, 0))] [] M1 := by
    intro n
    induction n with
    | zero => intro x5 x3 x2 M1 b5 b2 hc h20 htr hms; omega
    | succ n ih3 =>
      intro x5 x3 x2 M1 b5 b2 hc h20 htr hms3
      refine hgo.2.2 _ _ _ _ (fun hM1 _ => ?_)
      have b20 := xm_f20 hM1
      refine hgo.1 26 [57, 79, 103, 249] 249 _ _ _ ?_
      refine And.intro ?_ ?_
      · intro (c1 : 4 ≤ x5)
        show post (some (0, 0, (-2147483648), 2147483647, x3)) M1
        exact k _ _ _ _ htr hc
      · intro (c1 : x5 < 4)
        refine And.intro ?_ ?_
        · intro (c2 : x3 ≤ 0)
          show post (some (0, 0, (-2147483648), 2147483647, x3)) M1
          exact k _ _ _ _ htr hc
        · intro (c2 : 0 < x3)
          refine And.intro ?_ ?_
          · intro (c3 : x2 = 2)
            refine And.intro (show 0 ≤ x5 ∧ x5 < 4 by omega) ?_
            show xa_C xm_I A h0 _ 231 [(2, 60, 0, 0, 0), (1, 0, (-2147483648), 2147483647, M1 91 x5)] M1 _
            refine ct_tell (n := M1 60 20) (by first | rfl | (simp [xa_up]; done) | omega) (by omega) (by omega) ?_
            show Q 249 [(5, (0, 0, 1, 5, x5 + 1)), (3, (0, 0, (-2147483648), 2147483647, x3)), (2, (0, 0, 1, 2, x2)), (0, (2, 60, 0, 0, 0))] [] (xa_up (xa_up M1 74 (M1 60 20) (M1 91 x5)) 60 20 ((M1 60 20) + 1))
            refine hgo.2.1 249 _ [(5, (0, 0, 0, 4, x5 + 1)), (3, (0, 0, (-2147483648), 2147483647, x3)), (2, (0, 0, 1, 2, x2)), (0, (2, 60, 0, 0, 0))] _ _ (xa_subI rfl rfl (fun _ _ _ _ => by omega) (xa_subI rfl rfl (fun _ _ _ _ => by omega) (xa_subI rfl rfl (fun _ _ _ _ => by omega) (xa_subR rfl xa_sub0)))) ?_
            exact ih3 (x5 + 1) x3 x2 (xa_up (xa_up M1 74 (M1 60 20) (M1 91 x5)) 60 20 ((M1 60 20) + 1)) (by omega) (by omega) (xm_cor_f (by omega) (xm_cor_a rfl hc)) (by first | omega | (simp [xa_up]; done) | (simp [xa_up]; omega)) htr (by omega)
          · intro (c3 : ¬ x2 = 2)
            refine And.intro ?_ ?_
            · intro (c4 : ¬ (x5 % 2) = 0)
              show Q 249 [(5, (0, 0, 1, 5, x5 + 1)), (3, (0, 0, (-2147483648), 2147483647, x3)), (2, (0, 0, 1, 2, x2)), (0, (2, 60, 0, 0, 0))] [] M1
              refine hgo.2.1 249 _ [(5, (0, 0, 0, 4, x5 + 1)), (3, (0, 0, (-2147483648), 2147483647, x3)), (2, (0, 0, 1, 2, x2)), (0, (2, 60, 0, 0, 0))] _ _ (xa_subI rfl rfl (fun _ _ _ _ => by omega) (xa_subI rfl rfl (fun _ _ _ _ => by omega) (xa_subI rfl rfl (fun _ _ _ _ => by omega) (xa_subR rfl xa_sub0)))) ?_
              exact ih3 (x5 + 1) x3 x2 M1 (by omega) (by omega) hc (by first | omega | (simp [xa_up]; done) | (simp [xa_up]; omega)) htr (by omega)
            · intro (c4 : (x5 % 2) = 0)
              refine And.intro (show 0 ≤ x5 ∧ x5 < 4 by omega) ?_
              show xa_C xm_I A h0 _ 231 [(2, 60, 0, 0, 0), (1, 0, (-2147483648), 2147483647, M1 91 x5)] M1 _
              refine ct_tell (n := M1 60 20) (by first | rfl | (simp [xa_up]; done) | omega) (by omega) (by omega) ?_
              show Q 249 [(5, (0, 0, 1, 5, x5 + 1)), (3, (0, 0, (-2147483648), 2147483647, x3)), (2, (0, 0, 1, 2, x2)), (0, (2, 60, 0, 0, 0))] [] (xa_up (xa_up M1 74 (M1 60 20) (M1 91 x5)) 60 20 ((M1 60 20) + 1))
              refine hgo.2.1 249 _ [(5, (0, 0, 0, 4, x5 + 1)), (3, (0, 0, (-2147483648), 2147483647, x3)), (2, (0, 0, 1, 2, x2)), (0, (2, 60, 0, 0, 0))] _ _ (xa_subI rfl rfl (fun _ _ _ _ => by omega) (xa_subI rfl rfl (fun _ _ _ _ => by omega) (xa_subI rfl rfl (fun _ _ _ _ => by omega) (xa_subR rfl xa_sub0)))) ?_
              exact ih3 (x5 + 1) x3 x2 (xa_up (xa_up M1 74 (M1 60 20) (M1 91 x5)) 60 20 ((M1 60 20) + 1)) (by omega) (by omega) (xm_cor_f (by omega) (xm_cor_a rfl hc)) (by first | omega | (simp [xa_up]; done) | (simp [xa_up]; omega)) htr (by omega)
  have loop0 : ∀ (n : Nat) (x5 x4 x3 x2 x1 : Int) (M1 : xa_M), 10 ≤ x5 ∧ x5 ≤ 401 → 1 ≤ x2 ∧ x2 ≤ 2 → 0 ≤ x1 ∧ x1 ≤ 7 → xm_cor M M1 → x1 < M 60 11 → (x1 = a ∧ x2 = b ∧ (¬ b = 1 → M 60 16 - M 60 15 ≤ 60)) → (M 60 15 ≤ x5 ∧ x5 ≤ M 60 16 + 1) → (0 ≤ x3 ∧ x3 ≤ (x5 - M 60 15) * 160000) → x3 = sh_s (sh_y x2 (M 60 15) (M 60 16) (M 70 x1) (M 71 x1)) (M 60 15) (x5 - M 60 15).toNat → 401 - x5 < (n : Int) → Q 57 [(5, (0, 0, 10, 401, x5)), (4, (0, 0, (-2147483648), 2147483647, x4)), (3, (0, 0, (-2147483648), 2147483647, x3)), (2, (0, 0, 1, 2, x2)), (1, (0, 0, 0, 7, x1)), (0, (2, 60, 0, 0, 0))] [] M1 := by
    intro n
    induction n with
    | zero => intro x5 x4 x3 x2 x1 M1 b5 b2 b1 hc hx1 hxa h5 h3 hn hms; omega
    | succ n ih0 =>
      intro x5 x4 x3 x2 x1 M1 b5 b2 b1 hc hx1 hxa h5 h3 hn hms0
      have p7 := hI.2.2.1 x1 (by omega) hx1
      have t70 := xm_t70 hM x1 (by omega) (by omega)
      have t71 := xm_t71 hM x1 (by omega) (by omega)
      have e0 := xm_corf hc 0 (by omega)
      have e6 := xm_corf hc 6 (by omega)
      have e61 := xm_corf hc 61 (by omega)
      have e11 := xm_corf hc 11 (by omega)
      have e15 := xm_corf hc 15 (by omega)
      have e16 := xm_corf hc 16 (by omega)
      have loop1 : ∀ (b9 : Int) (n : Nat) (x6 x4 x3 : Int) (M1 : xa_M), 1 ≤ x6 ∧ x6 ≤ 401 → 10 ≤ x5 ∧ x5 ≤ 400 → 1 ≤ x2 ∧ x2 ≤ 2 → 0 ≤ x1 ∧ x1 ≤ 7 → xm_cor M M1 → (b9 ≤ x6 ∧ x5 ≤ M 60 16 ∧ (x2 = 1 → b9 = 1 ∧ x6 ≤ 2) ∧ (¬ x2 = 1 → b9 = x5 ∧ x6 ≤ M 60 16 + 1)) → (0 ≤ x3 ∧ x3 ≤ (x5 - M 60 15) * 160000 + (x6 - b9) * 400) → x3 = sh_s (sh_y x2 (M 60 15) (M 60 16) (M 70 x1) (M 71 x1)) (M 60 15) (x5 - M 60 15).toNat + sh_s (sh_w x2 (M 60 15) (M 60 16) (M 70 x1) (M 71 x1) x5) b9 (x6 - b9).toNat → 401 - x6 < (n : Int) → Q 79 [(6, (0, 0, 1, 401, x6)), (5, (0, 0, 10, 400, x5)), (4, (0, 0, (-2147483648), 2147483647, x4)), (3, (0, 0, (-2147483648), 2147483647, x3)), (2, (0, 0, 1, 2, x2)), (1, (0, 0, 0, 7, x1)), (0, (2, 60, 0, 0, 0))] [] M1 := by
        intro b9 n
        induction n with
        | zero => intro x6 x4 x3 M1 b6 f5 f2 f1 hc h6 h4 hn1 hms; omega
        | succ n ih1 =>
          intro x6 x4 x3 M1 b6 f5 f2 f1 hc h6 h4 hn1 hms1
          have e0 := xm_corf hc 0 (by omega)
          have e6 := xm_corf hc 6 (by omega)
          have e61 := xm_corf hc 61 (by omega)
          have e11 := xm_corf hc 11 (by omega)
          have e15 := xm_corf hc 15 (by omega)
          have e16 := xm_corf hc 16 (by omega)
          have loop2 : ∀ (n : Nat) (x7 x4 x3 : Int) (M1 : xa_M), 10 ≤ x7 ∧ x7 ≤ 401 → 1 ≤ x6 ∧ x6 ≤ 400 → 10 ≤ x5 ∧ x5 ≤ 400 → 1 ≤ x2 ∧ x2 ≤ 2 → 0 ≤ x1 ∧ x1 ≤ 7 → xm_cor M M1 → ((x2 = 1 → x6 = 1) ∧ (¬ x2 = 1 → x6 ≤ M 60 16)) → (M 60 15 ≤ x7 ∧ x7 ≤ M 60 16 + 1) → (0 ≤ x3 ∧ x3 ≤ (x5 - M 60 15) * 160000 + (x6 - b9) * 400 + (x7 - M 60 15)) → x3 = sh_s (sh_y x2 (M 60 15) (M 60 16) (M 70 x1) (M 71 x1)) (M 60 15) (x5 - M 60 15).toNat + sh_s (sh_w x2 (M 60 15) (M 60 16) (M 70 x1) (M 71 x1) x5) b9 (x6 - b9).toNat + sh_s (sh_q x2 (M 60 15) (M 60 16) (M 70 x1) (M 71 x1) x5 x6) (M 60 15) (x7 - M 60 15).toNat → 401 - x7 < (n : Int) → Q 103 [(7, (0, 0, 10, 401, x7)), (6, (0, 0, 1, 400, x6)), (5, (0, 0, 10, 400, x5)), (4, (0, 0, (-2147483648), 2147483647, x4)), (3, (0, 0, (-2147483648), 2147483647, x3)), (2, (0, 0, 1, 2, x2)), (1, (0, 0, 0, 7, x1)), (0, (2, 60, 0, 0, 0))] [] M1 := by
            intro n
            induction n with
            | zero => intro x7 x4 x3 M1 b7 f6 f5 f2 f1 hc h61 h7 h5b hn2 hms; omega
            | succ n ih2 =>
              intro x7 x4 x3 M1 b7 f6 f5 f2 f1 hc h61 h7 h5b hn2 hms2
              have e0 := xm_corf hc 0 (by omega)
              have e6 := xm_corf hc 6 (by omega)
              have e61 := xm_corf hc 61 (by omega)
              have e11 := xm_corf hc 11 (by omega)
              have e15 := xm_corf hc 15 (by omega)
              have e16 := xm_corf hc 16 (by omega)
              refine hgo.1 64 [57, 79, 103, 249] 103 _ _ _ ?_
              refine And.intro ?_ ?_
              · intro (c1 : (M1 60 16) < x7)
                show Q 79 [(6, (0, 0, 2, 401, x6 + 1)), (7, (0, 0, 10, 401, x7)), (5, (0, 0, 10, 400, x5)), (4, (0, 0, (-2147483648), 2147483647, x4)), (3, (0, 0, (-2147483648), 2147483647, x3)), (2, (0, 0, 1, 2, x2)), (1, (0, 0, 0, 7, x1)), (0, (2, 60, 0, 0, 0))] [] M1
                refine hgo.2.1 79 _ [(6, (0, 0, 1, 401, x6 + 1)), (5, (0, 0, 10, 400, x5)), (4, (0, 0, (-2147483648), 2147483647, x4)), (3, (0, 0, (-2147483648), 2147483647, x3)), (2, (0, 0, 1, 2, x2)), (1, (0, 0, 0, 7, x1)), (0, (2, 60, 0, 0, 0))] _ _ (xa_subI rfl rfl (fun _ _ _ _ => by omega) (xa_subI rfl rfl (fun _ _ _ _ => by omega) (xa_subI rfl rfl (fun _ _ _ _ => by omega) (xa_subI rfl rfl (fun _ _ _ _ => by omega) (xa_subI rfl rfl (fun _ _ _ _ => by omega) (xa_subI rfl rfl (fun _ _ _ _ => by omega) (xa_subR rfl xa_sub0))))))) ?_
                have e7 : x7 = M 60 16 + 1 := by omega
                rw [e7] at hn2
                exact ih1 (x6 + 1) x4 x3 M1 (by omega) (by omega) (by omega) (by omega) hc (by omega) (by omega) (by rw [sh_p (show b9 ≤ x6 by omega)]; show _ = _ + (_ + sh_s (sh_q x2 (M 60 15) (M 60 16) (M 70 x1) (M 71 x1) x5 x6) (M 60 15) (M 60 16 + 1 - M 60 15).toNat); omega) (by omega)
              · intro (c1 : x7 ≤ (M1 60 16))
                show xa_C xm_I A h0 _ 258 [(2, 60, 0, 0, 0), (0, 0, 0, 7, x1), (0, 0, 10, 400, x5), (0, 0, 1, 400, x6), (0, 0, 10, 401, x7)] M1 _
                refine ct_fourthF (xm_Inv_cor hc hI) (by omega) (by rw [xm_corf hc 11 (by omega)]; omega) (by omega) (by omega) (by omega) (by omega) (by omega) (by omega) (fun r2 br2 er2 => ?_)
                rw [hc 70 x1 (by unfold xm_scr; omega), hc 71 x1 (by unfold xm_scr; omega)] at er2
                have w9 := xa_w32_id (n := x3 + 1) (by omega) (by omega)
                refine And.intro ?_ ?_
                · intro (c3 : ¬ x2 = 1)
                  show xa_C xm_I A h0 _ 214 [(0, 0, 0, 1000, r2), (0, 0, 10, 401, x7), (0, 0, 10, 400, M1 60 16)] M1 _
                  refine ct_in ?_ ?_
                  · intro (i4 : x7 ≤ r2 ∧ r2 ≤ (M1 60 16))
                    refine And.intro ?_ ?_
                    · intro (c5 : (xa_w32 (x3 + 1)) ≤ 1)
                      show Q 103 [(7, (0, 0, 11, 402, x7 + 1)), (4, (0, 0, 21, 2201, ((x5 + x6) + x7) + r2)), (9, (0, 0, 21, 2201, ((x5 + x6) + x7) + r2)), (3, (0, 0, (-2147483648), 2147483647, xa_w32 (x3 + 1))), (8, (0, 0, 0, 1000, r2)), (6, (0, 0, 1, 400, x6)), (5, (0, 0, 10, 400, x5)), (2, (0, 0, 1, 2, x2)), (1, (0, 0, 0, 7, x1)), (0, (2, 60, 0, 0, 0))] [] (xa_up (xa_up (xa_up (xa_up M1 91 0 x5) 91 1 x6) 91 2 x7) 91 3 r2)
                      refine hgo.2.1 103 _ [(7, (0, 0, 10, 401, x7 + 1)), (6, (0, 0, 1, 400, x6)), (5, (0, 0, 10, 400, x5)), (4, (0, 0, (-2147483648), 2147483647, ((x5 + x6) + x7) + r2)), (3, (0, 0, (-2147483648), 2147483647, xa_w32 (x3 + 1))), (2, (0, 0, 1, 2, x2)), (1, (0, 0, 0, 7, x1)), (0, (2, 60, 0, 0, 0))] _ _ (xa_subI rfl rfl (fun _ _ _ _ => by omega) (xa_subI rfl rfl (fun _ _ _ _ => by omega) (xa_subI rfl rfl (fun _ _ _ _ => by omega) (xa_subI rfl rfl (fun _ _ _ _ => by omega) (xa_subI rfl rfl (fun _ _ _ _ => by omega) (xa_subI rfl rfl (fun _ _ _ _ => by omega) (xa_subI rfl rfl (fun _ _ _ _ => by omega) (xa_subR rfl xa_sub0)))))))) ?_
                      exact ih2 (x7 + 1) (((x5 + x6) + x7) + r2) (xa_w32 (x3 + 1)) (xa_up (xa_up (xa_up (xa_up M1 91 0 x5) 91 1 x6) 91 2 x7) 91 3 r2) (by omega) (by omega) (by omega) (by omega) (by omega) (xm_cor_a rfl (xm_cor_a rfl (xm_cor_a rfl (xm_cor_a rfl hc)))) h61 (by omega) (by omega) (by rw [sh_p (show M 60 15 ≤ x7 by omega), tr_a (by omega) (by omega) (by omega) (by omega) c3 er2 (by omega)]; omega) (by omega)
                    · intro (c5 : 1 < (xa_w32 (x3 + 1)))
                      refine And.intro ?_ ?_
                      · intro (c6 : (((x5 + x6) + x7) + r2) < x4)
                        show Q 103 [(7, (0, 0, 11, 402, x7 + 1)), (4, (0, 0, 21, 2201, ((x5 + x6) + x7) + r2)), (9, (0, 0, 21, 2201, ((x5 + x6) + x7) + r2)), (3, (0, 0, (-2147483648), 2147483647, xa_w32 (x3 + 1))), (8, (0, 0, 0, 1000, r2)), (6, (0, 0, 1, 400, x6)), (5, (0, 0, 10, 400, x5)), (2, (0, 0, 1, 2, x2)), (1, (0, 0, 0, 7, x1)), (0, (2, 60, 0, 0, 0))] [] (xa_up (xa_up (xa_up (xa_up M1 91 0 x5) 91 1 x6) 91 2 x7) 91 3 r2)
                        refine hgo.2.1 103 _ [(7, (0, 0, 10, 401, x7 + 1)), (6, (0, 0, 1, 400, x6)), (5, (0, 0, 10, 400, x5)), (4, (0, 0, (-2147483648), 2147483647, ((x5 + x6) + x7) + r2)), (3, (0, 0, (-2147483648), 2147483647, xa_w32 (x3 + 1))), (2, (0, 0, 1, 2, x2)), (1, (0, 0, 0, 7, x1)), (0, (2, 60, 0, 0, 0))] _ _ (xa_subI rfl rfl (fun _ _ _ _ => by omega) (xa_subI rfl rfl (fun _ _ _ _ => by omega) (xa_subI rfl rfl (fun _ _ _ _ => by omega) (xa_subI rfl rfl (fun _ _ _ _ => by omega) (xa_subI rfl rfl (fun _ _ _ _ => by omega) (xa_subI rfl rfl (fun _ _ _ _ => by omega) (xa_subI rfl rfl (fun _ _ _ _ => by omega) (xa_subR rfl xa_sub0)))))))) ?_
                        exact ih2 (x7 + 1) (((x5 + x6) + x7) + r2) (xa_w32 (x3 + 1)) (xa_up (xa_up (xa_up (xa_up M1 91 0 x5) 91 1 x6) 91 2 x7) 91 3 r2) (by omega) (by omega) (by omega) (by omega) (by omega) (xm_cor_a rfl (xm_cor_a rfl (xm_cor_a rfl (xm_cor_a rfl hc)))) h61 (by omega) (by omega) (by rw [sh_p (show M 60 15 ≤ x7 by omega), tr_a (by omega) (by omega) (by omega) (by omega) c3 er2 (by omega)]; omega) (by omega)
                      · intro (c6 : x4 ≤ (((x5 + x6) + x7) + r2))
                        show Q 103 [(7, (0, 0, 11, 402, x7 + 1)), (9, (0, 0, 21, 2201, ((x5 + x6) + x7) + r2)), (3, (0, 0, (-2147483648), 2147483647, xa_w32 (x3 + 1))), (8, (0, 0, 0, 1000, r2)), (6, (0, 0, 1, 400, x6)), (5, (0, 0, 10, 400, x5)), (4, (0, 0, (-2147483648), 2147483647, x4)), (2, (0, 0, 1, 2, x2)), (1, (0, 0, 0, 7, x1)), (0, (2, 60, 0, 0, 0))] [] M1
                        refine hgo.2.1 103 _ [(7, (0, 0, 10, 401, x7 + 1)), (6, (0, 0, 1, 400, x6)), (5, (0, 0, 10, 400, x5)), (4, (0, 0, (-2147483648), 2147483647, x4)), (3, (0, 0, (-2147483648), 2147483647, xa_w32 (x3 + 1))), (2, (0, 0, 1, 2, x2)), (1, (0, 0, 0, 7, x1)), (0, (2, 60, 0, 0, 0))] _ _ (xa_subI rfl rfl (fun _ _ _ _ => by omega) (xa_subI rfl rfl (fun _ _ _ _ => by omega) (xa_subI rfl rfl (fun _ _ _ _ => by omega) (xa_subI rfl rfl (fun _ _ _ _ => by omega) (xa_subI rfl rfl (fun _ _ _ _ => by omega) (xa_subI rfl rfl (fun _ _ _ _ => by omega) (xa_subI rfl rfl (fun _ _ _ _ => by omega) (xa_subR rfl xa_sub0)))))))) ?_
                        exact ih2 (x7 + 1) x4 (xa_w32 (x3 + 1)) M1 (by omega) (by omega) (by omega) (by omega) (by omega) hc h61 (by omega) (by omega) (by rw [sh_p (show M 60 15 ≤ x7 by omega), tr_a (by omega) (by omega) (by omega) (by omega) c3 er2 (by omega)]; omega) (by omega)
                  · intro (i4 : ¬ (x7 ≤ r2 ∧ r2 ≤ (M1 60 16)))
                    show Q 103 [(7, (0, 0, 11, 402, x7 + 1)), (8, (0, 0, 0, 1000, r2)), (6, (0, 0, 1, 400, x6)), (5, (0, 0, 10, 400, x5)), (4, (0, 0, (-2147483648), 2147483647, x4)), (3, (0, 0, (-2147483648), 2147483647, x3)), (2, (0, 0, 1, 2, x2)), (1, (0, 0, 0, 7, x1)), (0, (2, 60, 0, 0, 0))] [] M1
                    refine hgo.2.1 103 _ [(7, (0, 0, 10, 401, x7 + 1)), (6, (0, 0, 1, 400, x6)), (5, (0, 0, 10, 400, x5)), (4, (0, 0, (-2147483648), 2147483647, x4)), (3, (0, 0, (-2147483648), 2147483647, x3)), (2, (0, 0, 1, 2, x2)), (1, (0, 0, 0, 7, x1)), (0, (2, 60, 0, 0, 0))] _ _ (xa_subI rfl rfl (fun _ _ _ _ => by omega) (xa_subI rfl rfl (fun _ _ _ _ => by omega) (xa_subI rfl rfl (fun _ _ _ _ => by omega) (xa_subI rfl rfl (fun _ _ _ _ => by omega) (xa_subI rfl rfl (fun _ _ _ _ => by omega) (xa_subI rfl rfl (fun _ _ _ _ => by omega) (xa_subI rfl rfl (fun _ _ _ _ => by omega) (xa_subR rfl xa_sub0)))))))) ?_
                    exact ih2 (x7 + 1) x4 x3 M1 (by omega) (by omega) (by omega) (by omega) (by omega) hc h61 (by omega) (by omega) (by rw [sh_p (show M 60 15 ≤ x7 by omega), tr_b (by omega) (by omega) (by omega) (by omega) c3 er2 (by omega)]; omega) (by omega)
                · intro (c3 : x2 = 1)
                  refine And.intro ?_ ?_
                  · intro (c7 : r2 = 1)
                    refine And.intro ?_ ?_
                    · intro (c8 : (xa_w32 (x3 + 1)) ≤ 1)
                      show Q 103 [(7, (0, 0, 11, 402, x7 + 1)), (4, (0, 0, 21, 2201, ((x5 + x6) + x7) + r2)), (9, (0, 0, 21, 2201, ((x5 + x6) + x7) + r2)), (3, (0, 0, (-2147483648), 2147483647, xa_w32 (x3 + 1))), (8, (0, 0, 0, 1000, r2)), (6, (0, 0, 1, 400, x6)), (5, (0, 0, 10, 400, x5)), (2, (0, 0, 1, 2, x2)), (1, (0, 0, 0, 7, x1)), (0, (2, 60, 0, 0, 0))] [] (xa_up (xa_up (xa_up (xa_up M1 91 0 x5) 91 1 x6) 91 2 x7) 91 3 r2)
                      refine hgo.2.1 103 _ [(7, (0, 0, 10, 401, x7 + 1)), (6, (0, 0, 1, 400, x6)), (5, (0, 0, 10, 400, x5)), (4, (0, 0, (-2147483648), 2147483647, ((x5 + x6) + x7) + r2)), (3, (0, 0, (-2147483648), 2147483647, xa_w32 (x3 + 1))), (2, (0, 0, 1, 2, x2)), (1, (0, 0, 0, 7, x1)), (0, (2, 60, 0, 0, 0))] _ _ (xa_subI rfl rfl (fun _ _ _ _ => by omega) (xa_subI rfl rfl (fun _ _ _ _ => by omega) (xa_subI rfl rfl (fun _ _ _ _ => by omega) (xa_subI rfl rfl (fun _ _ _ _ => by omega) (xa_subI rfl rfl (fun _ _ _ _ => by omega) (xa_subI rfl rfl (fun _ _ _ _ => by omega) (xa_subI rfl rfl (fun _ _ _ _ => by omega) (xa_subR rfl xa_sub0)))))))) ?_
                      exact ih2 (x7 + 1) (((x5 + x6) + x7) + r2) (xa_w32 (x3 + 1)) (xa_up (xa_up (xa_up (xa_up M1 91 0 x5) 91 1 x6) 91 2 x7) 91 3 r2) (by omega) (by omega) (by omega) (by omega) (by omega) (xm_cor_a rfl (xm_cor_a rfl (xm_cor_a rfl (xm_cor_a rfl hc)))) h61 (by omega) (by omega) (by rw [sh_p (show M 60 15 ≤ x7 by omega), tr_c c3 (h61.1 c3) er2 c7]; omega) (by omega)
                    · intro (c8 : 1 < (xa_w32 (x3 + 1)))
                      refine And.intro ?_ ?_
                      · intro (c9 : (((x5 + x6) + x7) + r2) < x4)
                        show Q 103 [(7, (0, 0, 11, 402, x7 + 1)), (4, (0, 0, 21, 2201, ((x5 + x6) + x7) + r2)), (9, (0, 0, 21, 2201, ((x5 + x6) + x7) + r2)), (3, (0, 0, (-2147483648), 2147483647, xa_w32 (x3 + 1))), (8, (0, 0, 0, 1000, r2)), (6, (0, 0, 1, 400, x6)), (5, (0, 0, 10, 400, x5)), (2, (0, 0, 1, 2, x2)), (1, (0, 0, 0, 7, x1)), (0, (2, 60, 0, 0, 0))] [] (xa_up (xa_up (xa_up (xa_up M1 91 0 x5) 91 1 x6) 91 2 x7) 91 3 r2)
                        refine hgo.2.1 103 _ [(7, (0, 0, 10, 401, x7 + 1)), (6, (0, 0, 1, 400, x6)), (5, (0, 0, 10, 400, x5)), (4, (0, 0, (-2147483648), 2147483647, ((x5 + x6) + x7) + r2)), (3, (0, 0, (-2147483648), 2147483647, xa_w32 (x3 + 1))), (2, (0, 0, 1, 2, x2)), (1, (0, 0, 0, 7, x1)), (0, (2, 60, 0, 0, 0))] _ _ (xa_subI rfl rfl (fun _ _ _ _ => by omega) (xa_subI rfl rfl (fun _ _ _ _ => by omega) (xa_subI rfl rfl (fun _ _ _ _ => by omega) (xa_subI rfl rfl (fun _ _ _ _ => by omega) (xa_subI rfl rfl (fun _ _ _ _ => by omega) (xa_subI rfl rfl (fun _ _ _ _ => by omega) (xa_subI rfl rfl (fun _ _ _ _ => by omega) (xa_subR rfl xa_sub0)))))))) ?_
                        exact ih2 (x7 + 1) (((x5 + x6) + x7) + r2) (xa_w32 (x3 + 1)) (xa_up (xa_up (xa_up (xa_up M1 91 0 x5) 91 1 x6) 91 2 x7) 91 3 r2) (by omega) (by omega) (by omega) (by omega) (by omega) (xm_cor_a rfl (xm_cor_a rfl (xm_cor_a rfl (xm_cor_a rfl hc)))) h61 (by omega) (by omega) (by rw [sh_p (show M 60 15 ≤ x7 by omega), tr_c c3 (h61.1 c3) er2 c7]; omega) (by omega)
                      · intro (c9 : x4 ≤ (((x5 + x6) + x7) + r2))
                        show Q 103 [(7, (0, 0, 11, 402, x7 + 1)), (9, (0, 0, 21, 2201, ((x5 + x6) + x7) + r2)), (3, (0, 0, (-2147483648), 2147483647, xa_w32 (x3 + 1))), (8, (0, 0, 0, 1000, r2)), (6, (0, 0, 1, 400, x6)), (5, (0, 0, 10, 400, x5)), (4, (0, 0, (-2147483648), 2147483647, x4)), (2, (0, 0, 1, 2, x2)), (1, (0, 0, 0, 7, x1)), (0, (2, 60, 0, 0, 0))] [] M1
                        refine hgo.2.1 103 _ [(7, (0, 0, 10, 401, x7 + 1)), (6, (0, 0, 1, 400, x6)), (5, (0, 0, 10, 400, x5)), (4, (0, 0, (-2147483648), 2147483647, x4)), (3, (0, 0, (-2147483648), 2147483647, xa_w32 (x3 + 1))), (2, (0, 0, 1, 2, x2)), (1, (0, 0, 0, 7, x1)), (0, (2, 60, 0, 0, 0))] _ _ (xa_subI rfl rfl (fun _ _ _ _ => by omega) (xa_subI rfl rfl (fun _ _ _ _ => by omega) (xa_subI rfl rfl (fun _ _ _ _ => by omega) (xa_subI rfl rfl (fun _ _ _ _ => by omega) (xa_subI rfl rfl (fun _ _ _ _ => by omega) (xa_subI rfl rfl (fun _ _ _ _ => by omega) (xa_subI rfl rfl (fun _ _ _ _ => by omega) (xa_subR rfl xa_sub0)))))))) ?_
                        exact ih2 (x7 + 1) x4 (xa_w32 (x3 + 1)) M1 (by omega) (by omega) (by omega) (by omega) (by omega) hc h61 (by omega) (by omega) (by rw [sh_p (show M 60 15 ≤ x7 by omega), tr_c c3 (h61.1 c3) er2 c7]; omega) (by omega)
                  · intro (c7 : ¬ r2 = 1)
                    show Q 103 [(7, (0, 0, 11, 402, x7 + 1)), (8, (0, 0, 0, 1000, r2)), (6, (0, 0, 1, 400, x6)), (5, (0, 0, 10, 400, x5)), (4, (0, 0, (-2147483648), 2147483647, x4)), (3, (0, 0, (-2147483648), 2147483647, x3)), (2, (0, 0, 1, 2, x2)), (1, (0, 0, 0, 7, x1)), (0, (2, 60, 0, 0, 0))] [] M1
                    refine hgo.2.1 103 _ [(7, (0, 0, 10, 401, x7 + 1)), (6, (0, 0, 1, 400, x6)), (5, (0, 0, 10, 400, x5)), (4, (0, 0, (-2147483648), 2147483647, x4)), (3, (0, 0, (-2147483648), 2147483647, x3)), (2, (0, 0, 1, 2, x2)), (1, (0, 0, 0, 7, x1)), (0, (2, 60, 0, 0, 0))] _ _ (xa_subI rfl rfl (fun _ _ _ _ => by omega) (xa_subI rfl rfl (fun _ _ _ _ => by omega) (xa_subI rfl rfl (fun _ _ _ _ => by omega) (xa_subI rfl rfl (fun _ _ _ _ => by omega) (xa_subI rfl rfl (fun _ _ _ _ => by omega) (xa_subI rfl rfl (fun _ _ _ _ => by omega) (xa_subI rfl rfl (fun _ _ _ _ => by omega) (xa_subR rfl xa_sub0)))))))) ?_
                    exact ih2 (x7 + 1) x4 x3 M1 (by omega) (by omega) (by omega) (by omega) (by omega) hc h61 (by omega) (by omega) (by rw [sh_p (show M 60 15 ≤ x7 by omega), tr_d c3 (h61.1 c3) er2 c7]; omega) (by omega)
          refine hgo.1 15 [57, 79, 103, 249] 79 _ _ _ ?_
          refine And.intro ?_ ?_
          · intro (c1 : ¬ x2 = 1)
            refine And.intro ?_ ?_
            · intro (c2 : (M1 60 16) < x6)
              show Q 57 [(5, (0, 0, 11, 401, x5 + 1)), (6, (0, 0, 1, 401, x6)), (4, (0, 0, (-2147483648), 2147483647, x4)), (3, (0, 0, (-2147483648), 2147483647, x3)), (2, (0, 0, 1, 2, x2)), (1, (0, 0, 0, 7, x1)), (0, (2, 60, 0, 0, 0))] [] M1
              refine hgo.2.1 57 _ [(5, (0, 0, 10, 401, x5 + 1)), (4, (0, 0, (-2147483648), 2147483647, x4)), (3, (0, 0, (-2147483648), 2147483647, x3)), (2, (0, 0, 1, 2, x2)), (1, (0, 0, 0, 7, x1)), (0, (2, 60, 0, 0, 0))] _ _ (xa_subI rfl rfl (fun _ _ _ _ => by omega) (xa_subI rfl rfl (fun _ _ _ _ => by omega) (xa_subI rfl rfl (fun _ _ _ _ => by omega) (xa_subI rfl rfl (fun _ _ _ _ => by omega) (xa_subI rfl rfl (fun _ _ _ _ => by omega) (xa_subR rfl xa_sub0)))))) ?_
              have eb : b9 = x5 := (h6.2.2.2 c1).1
              rw [eb] at hn1
              exact ih0 (x5 + 1) x4 x3 x2 x1 M1 (by omega) (by omega) (by omega) hc (by omega) hxa (by omega) (by omega) (by rw [sh_p (show M 60 15 ≤ x5 by omega), ← sh_wy2 c1 (show x6 = M 60 16 + 1 by omega)]; exact hn1) (by omega)
            · intro (c2 : x6 ≤ (M1 60 16))
              show Q 103 [(7, (0, 0, 10, 400, M1 60 15)), (6, (0, 0, 1, 401, x6)), (5, (0, 0, 10, 400, x5)), (4, (0, 0, (-2147483648), 2147483647, x4)), (3, (0, 0, (-2147483648), 2147483647, x3)), (2, (0, 0, 1, 2, x2)), (1, (0, 0, 0, 7, x1)), (0, (2, 60, 0, 0, 0))] [] M1
              refine hgo.2.1 103 _ [(7, (0, 0, 10, 401, M1 60 15)), (6, (0, 0, 1, 400, x6)), (5, (0, 0, 10, 400, x5)), (4, (0, 0, (-2147483648), 2147483647, x4)), (3, (0, 0, (-2147483648), 2147483647, x3)), (2, (0, 0, 1, 2, x2)), (1, (0, 0, 0, 7, x1)), (0, (2, 60, 0, 0, 0))] _ _ (xa_subI rfl rfl (fun _ _ _ _ => by omega) (xa_subI rfl rfl (fun _ _ _ _ => by omega) (xa_subI rfl rfl (fun _ _ _ _ => by omega) (xa_subI rfl rfl (fun _ _ _ _ => by omega) (xa_subI rfl rfl (fun _ _ _ _ => by omega) (xa_subI rfl rfl (fun _ _ _ _ => by omega) (xa_subI rfl rfl (fun _ _ _ _ => by omega) (xa_subR rfl xa_sub0)))))))) ?_
              exact loop2 402 (M1 60 15) x4 x3 M1 (by omega) (by omega) (by omega) (by omega) (by omega) hc (by omega) (by omega) (by omega) (by rw [show (M1 60 15 - M 60 15).toNat = 0 by omega]; show _ = _ + 0; omega) (by omega)
          · intro (c1 : x2 = 1)
            refine And.intro ?_ ?_
            · intro (c3 : 1 < x6)
              show Q 57 [(5, (0, 0, 11, 401, x5 + 1)), (6, (0, 0, 1, 401, x6)), (4, (0, 0, (-2147483648), 2147483647, x4)), (3, (0, 0, (-2147483648), 2147483647, x3)), (2, (0, 0, 1, 2, x2)), (1, (0, 0, 0, 7, x1)), (0, (2, 60, 0, 0, 0))] [] M1
              refine hgo.2.1 57 _ [(5, (0, 0, 10, 401, x5 + 1)), (4, (0, 0, (-2147483648), 2147483647, x4)), (3, (0, 0, (-2147483648), 2147483647, x3)), (2, (0, 0, 1, 2, x2)), (1, (0, 0, 0, 7, x1)), (0, (2, 60, 0, 0, 0))] _ _ (xa_subI rfl rfl (fun _ _ _ _ => by omega) (xa_subI rfl rfl (fun _ _ _ _ => by omega) (xa_subI rfl rfl (fun _ _ _ _ => by omega) (xa_subI rfl rfl (fun _ _ _ _ => by omega) (xa_subI rfl rfl (fun _ _ _ _ => by omega) (xa_subR rfl xa_sub0)))))) ?_
              have eb : b9 = 1 := (h6.2.2.1 c1).1
              rw [eb] at hn1
              exact ih0 (x5 + 1) x4 x3 x2 x1 M1 (by omega) (by omega) (by omega) hc (by omega) hxa (by omega) (by omega) (by rw [sh_p (show M 60 15 ≤ x5 by omega), ← sh_wy1 c1 (show x6 = 2 by omega) (by omega) (by omega) (by omega) (by omega)]; exact hn1) (by omega)
            · intro (c3 : x6 ≤ 1)
              show Q 103 [(7, (0, 0, 10, 400, M1 60 15)), (6, (0, 0, 1, 401, x6)), (5, (0, 0, 10, 400, x5)), (4, (0, 0, (-2147483648), 2147483647, x4)), (3, (0, 0, (-2147483648), 2147483647, x3)), (2, (0, 0, 1, 2, x2)), (1, (0, 0, 0, 7, x1)), (0, (2, 60, 0, 0, 0))] [] M1
              refine hgo.2.1 103 _ [(7, (0, 0, 10, 401, M1 60 15)), (6, (0, 0, 1, 400, x6)), (5, (0, 0, 10, 400, x5)), (4, (0, 0, (-2147483648), 2147483647, x4)), (3, (0, 0, (-2147483648), 2147483647, x3)), (2, (0, 0, 1, 2, x2)), (1, (0, 0, 0, 7, x1)), (0, (2, 60, 0, 0, 0))] _ _ (xa_subI rfl rfl (fun _ _ _ _ => by omega) (xa_subI rfl rfl (fun _ _ _ _ => by omega) (xa_subI rfl rfl (fun _ _ _ _ => by omega) (xa_subI rfl rfl (fun _ _ _ _ => by omega) (xa_subI rfl rfl (fun _ _ _ _ => by omega) (xa_subI rfl rfl (fun _ _ _ _ => by omega) (xa_subI rfl rfl (fun _ _ _ _ => by omega) (xa_subR rfl xa_sub0)))))))) ?_
              exact loop2 402 (M1 60 15) x4 x3 M1 (by omega) (by omega) (by omega) (by omega) (by omega) hc (by omega) (by omega) (by omega) (by rw [show (M1 60 15 - M 60 15).toNat = 0 by omega]; show _ = _ + 0; omega) (by omega)
      refine hgo.1 15 [57, 79, 103, 249] 57 _ _ _ ?_
      refine And.intro ?_ ?_
      · intro (c1 : (M1 60 16) < x5)
        show Q 249 [(5, (0, 0, 0, 0, 0)), (4, (0, 0, (-2147483648), 2147483647, x4)), (3, (0, 0, (-2147483648), 2147483647, x3)), (2, (0, 0, 1, 2, x2)), (1, (0, 0, 0, 7, x1)), (0, (2, 60, 0, 0, 0))] [] (xa_up M1 60 20 0)
        refine hgo.2.1 249 _ [(5, (0, 0, 0, 4, 0)), (3, (0, 0, (-2147483648), 2147483647, x3)), (2, (0, 0, 1, 2, x2)), (0, (2, 60, 0, 0, 0))] _ _ (xa_subI rfl rfl (fun _ _ _ _ => by omega) (xa_subI rfl rfl (fun _ _ _ _ => by omega) (xa_subI rfl rfl (fun _ _ _ _ => by omega) (xa_subR rfl xa_sub0)))) ?_
        exact loop3 5 0 x3 x2 (xa_up M1 60 20 0) (by omega) (by omega) (xm_cor_f (by omega) hc) (by first | omega | (simp [xa_up]; done) | (simp [xa_up]; omega)) (by have e : x5 = M 60 16 + 1 := (by omega); rw [e, hxa.1, hxa.2.1] at hn; exact tr_Pi (by omega) (by omega) (by omega) hxa.2.2 hn) (by omega)
      · intro (c1 : x5 ≤ (M1 60 16))
        refine And.intro ?_ ?_
        · intro (c2 : ¬ x2 = 1)
          show Q 79 [(6, (0, 0, 10, 401, x5)), (5, (0, 0, 10, 401, x5)), (4, (0, 0, (-2147483648), 2147483647, x4)), (3, (0, 0, (-2147483648), 2147483647, x3)), (2, (0, 0, 1, 2, x2)), (1, (0, 0, 0, 7, x1)), (0, (2, 60, 0, 0, 0))] [] M1
          refine hgo.2.1 79 _ [(6, (0, 0, 1, 401, x5)), (5, (0, 0, 10, 400, x5)), (4, (0, 0, (-2147483648), 2147483647, x4)), (3, (0, 0, (-2147483648), 2147483647, x3)), (2, (0, 0, 1, 2, x2)), (1, (0, 0, 0, 7, x1)), (0, (2, 60, 0, 0, 0))] _ _ (xa_subI rfl rfl (fun _ _ _ _ => by omega) (xa_subI rfl rfl (fun _ _ _ _ => by omega) (xa_subI rfl rfl (fun _ _ _ _ => by omega) (xa_subI rfl rfl (fun _ _ _ _ => by omega) (xa_subI rfl rfl (fun _ _ _ _ => by omega) (xa_subI rfl rfl (fun _ _ _ _ => by omega) (xa_subR rfl xa_sub0))))))) ?_
          exact loop1 x5 402 x5 x4 x3 M1 (by omega) (by omega) (by omega) (by omega) hc (by omega) (by omega) (by rw [show (x5 - x5).toNat = 0 by omega]; show _ = _ + 0; omega) (by omega)
        · intro (c2 : x2 = 1)
          show Q 79 [(6, (0, 0, 1, 1, 1)), (5, (0, 0, 10, 401, x5)), (4, (0, 0, (-2147483648), 2147483647, x4)), (3, (0, 0, (-2147483648), 2147483647, x3)), (2, (0, 0, 1, 2, x2)), (1, (0, 0, 0, 7, x1)), (0, (2, 60, 0, 0, 0))] [] M1
          refine hgo.2.1 79 _ [(6, (0, 0, 1, 401, 1)), (5, (0, 0, 10, 400, x5)), (4, (0, 0, (-2147483648), 2147483647, x4)), (3, (0, 0, (-2147483648), 2147483647, x3)), (2, (0, 0, 1, 2, x2)), (1, (0, 0, 0, 7, x1)), (0, (2, 60, 0, 0, 0))] _ _ (xa_subI rfl rfl (fun _ _ _ _ => by omega) (xa_subI rfl rfl (fun _ _ _ _ => by omega) (xa_subI rfl rfl (fun _ _ _ _ => by omega) (xa_subI rfl rfl (fun _ _ _ _ => by omega) (xa_subI rfl rfl (fun _ _ _ _ => by omega) (xa_subI rfl rfl (fun _ _ _ _ => by omega) (xa_subR rfl xa_sub0))))))) ?_
          exact loop1 1 402 1 x4 x3 M1 (by omega) (by omega) (by omega) (by omega) hc (by omega) (by omega) (by rw [show ((1 : Int) - 1).toNat = 0 by decide]; show _ = _ + 0; omega) (by omega)
  refine hgo.1 18 [24] 0 _ _ _ ?_
  show xa_C xm_I A h0 _ 239 [(2, 60, 0, 0, 0), (0, 0, (-2147483648), 2147483647, a)] (xa_up M 60 21 0) _
  refine ct_isPeriod ?_ ?_
  · intro (i1 : 0 ≤ a ∧ a < (M 60 11))
    show xa_C xm_I A h0 _ 214 [(0, 0, (-2147483648), 2147483647, b), (0, 0, 1, 1, 1), (0, 0, 2, 2, 2)] (xa_up M 60 21 0) _
    refine ct_in ?_ ?_
    · intro (i2 : 1 ≤ b ∧ b ≤ 2)
      show Q 24 [(0, (2, 60, 0, 0, 0)), (1, (0, 0, (-2147483648), 2147483647, a)), (2, (0, 0, (-2147483648), 2147483647, b))] [] (xa_up M 60 21 0)
      refine hgo.2.1 24 _ [(2, (0, 0, 1, 2, b)), (1, (0, 0, 0, 7, a)), (0, (2, 60, 0, 0, 0))] _ _ (xa_subI rfl rfl (fun _ _ _ _ => by omega) (xa_subI rfl rfl (fun _ _ _ _ => by omega) (xa_subR rfl xa_sub0))) ?_
      refine hgo.1 22 [57, 79, 103, 249] 24 _ _ _ ?_
      refine And.intro ?_ ?_
      · intro (c103 : ¬ b = 2)
        show Q 57 [(5, (0, 0, 10, 400, M 60 15)), (4, (0, 0, 0, 0, 0)), (3, (0, 0, 0, 0, 0)), (2, (0, 0, 1, 2, b)), (1, (0, 0, 0, 7, a)), (0, (2, 60, 0, 0, 0))] [] (xa_up M 60 21 0)
        refine hgo.2.1 57 _ [(5, (0, 0, 10, 401, M 60 15)), (4, (0, 0, (-2147483648), 2147483647, 0)), (3, (0, 0, (-2147483648), 2147483647, 0)), (2, (0, 0, 1, 2, b)), (1, (0, 0, 0, 7, a)), (0, (2, 60, 0, 0, 0))] _ _ (xa_subI rfl rfl (fun _ _ _ _ => by omega) (xa_subI rfl rfl (fun _ _ _ _ => by omega) (xa_subI rfl rfl (fun _ _ _ _ => by omega) (xa_subI rfl rfl (fun _ _ _ _ => by omega) (xa_subI rfl rfl (fun _ _ _ _ => by omega) (xa_subR rfl xa_sub0)))))) ?_
        exact loop0 402 (M 60 15) 0 0 b a (xa_up M 60 21 0) (by omega) (by omega) (by omega) (xm_cor_f (by omega) xm_cor_r) (by omega) ⟨rfl, rfl, by omega⟩ (by omega) (by omega) (by rw [show (M 60 15 - M 60 15).toNat = 0 by omega]; rfl) (by omega)
      · intro (c103 : b = 2)
        refine And.intro ?_ ?_
        · intro (c104 : ((M 60 16) - (M 60 15)) ≤ 60)
          show Q 57 [(5, (0, 0, 10, 400, M 60 15)), (4, (0, 0, 0, 0, 0)), (3, (0, 0, 0, 0, 0)), (2, (0, 0, 1, 2, b)), (1, (0, 0, 0, 7, a)), (0, (2, 60, 0, 0, 0))] [] (xa_up M 60 21 0)
          refine hgo.2.1 57 _ [(5, (0, 0, 10, 401, M 60 15)), (4, (0, 0, (-2147483648), 2147483647, 0)), (3, (0, 0, (-2147483648), 2147483647, 0)), (2, (0, 0, 1, 2, b)), (1, (0, 0, 0, 7, a)), (0, (2, 60, 0, 0, 0))] _ _ (xa_subI rfl rfl (fun _ _ _ _ => by omega) (xa_subI rfl rfl (fun _ _ _ _ => by omega) (xa_subI rfl rfl (fun _ _ _ _ => by omega) (xa_subI rfl rfl (fun _ _ _ _ => by omega) (xa_subI rfl rfl (fun _ _ _ _ => by omega) (xa_subR rfl xa_sub0)))))) ?_
          exact loop0 402 (M 60 15) 0 0 b a (xa_up M 60 21 0) (by omega) (by omega) (by omega) (xm_cor_f (by omega) xm_cor_r) (by omega) ⟨rfl, rfl, by omega⟩ (by omega) (by omega) (by rw [show (M 60 15 - M 60 15).toNat = 0 by omega]; rfl) (by omega)
        · intro (c104 : 60 < ((M 60 16) - (M 60 15)))
          show post (some (0, 0, (-4), (-4), (-4))) (xa_up M 60 21 0)
          exact k _ _ _ _ (by unfold tr_P; omega) (xm_cor_f (by omega) xm_cor_r)
    · intro (i2 : ¬ (1 ≤ b ∧ b ≤ 2))
      show post (some (0, 0, (-1), (-1), (-1))) (xa_up M 60 21 0)
      exact k _ _ _ _ (by unfold tr_P; omega) (xm_cor_f (by omega) xm_cor_r)
  · intro (i1 : ¬ (0 ≤ a ∧ a < (M 60 11)))
    show post (some (0, 0, (-1), (-1), (-1))) (xa_up M 60 21 0)
    exact k _ _ _ _ (by unfold tr_P; omega) (xm_cor_f (by omega) xm_cor_r)

