-- trains, on both sides
set_option maxRecDepth 20000
/-- what the fourth of the teeth is -/
def tr_r (u v a b c r : Int) : Prop := (¬ a * b * v % (c * u) = 0 ∧ r = 0) ∨ (a * b * v % (c * u) = 0 ∧ r ≤ 1000 ∧ r ≤ a * b * v / (c * u) ∧ (r = 1000 ∨ r = a * b * v / (c * u)))
/-- does it count -/
def sh_q (x L H u v a b c : Int) : Int := if x = 1 then sh_h u v a c else sh_i L H (sh_d u v a b) c
def sh_w (x L H u v a b : Int) : Int := sh_s (sh_q x L H u v a b) L (H + 1 - L).toNat
def sh_y (x L H u v a : Int) : Int := if x = 1 then sh_g L H u v a else sh_ta L H u v a
theorem sh_q1 {x L H u v a b : Int} (h : x = 1) : sh_q x L H u v a b = sh_h u v a := funext (fun _ => if_pos h)
theorem sh_q2 {x L H u v a b : Int} (h : ¬ x = 1) : sh_q x L H u v a b = sh_i L H (sh_d u v a b) := funext (fun _ => if_neg h)
theorem tr_a {x L H u v a b c r : Int} (hu : 1 ≤ u) (hL : 1 ≤ L) (hH : H ≤ 400) (hc : L ≤ c) (h : ¬ x = 1) (e : tr_r u v a b c r) (i : c ≤ r ∧ r ≤ H) : sh_q x L H u v a b c = 1 := by
  rw [sh_q2 h]
  refine sh_i1 ((sh_fe hu hL hc).mpr ?_)
  rcases e with ⟨e1, e2⟩ | ⟨e1, e2, e3, e4⟩
  · exfalso
    omega
  · exact ⟨e1, by omega, by omega⟩
theorem tr_b {x L H u v a b c r : Int} (hu : 1 ≤ u) (hL : 1 ≤ L) (hH : H ≤ 400) (hc : L ≤ c) (h : ¬ x = 1) (e : tr_r u v a b c r) (i : ¬ (c ≤ r ∧ r ≤ H)) : sh_q x L H u v a b c = 0 := by
  rw [sh_q2 h]
  refine sh_i0 (fun g => i ?_)
  obtain ⟨g1, g2, g3⟩ := (sh_fe hu hL hc).mp g
  rcases e with ⟨e1, e2⟩ | ⟨e1, e2, e3, e4⟩
  · exact absurd g1 e1
  · omega
theorem tr_c {x L H u v a b c r : Int} (h : x = 1) (hb : b = 1) (e : tr_r u v a b c r) (i : r = 1) : sh_q x L H u v a b c = 1 := by
  rw [sh_q1 h]
  subst hb
  refine if_pos ?_
  rcases e with ⟨e1, e2⟩ | ⟨e1, e2, e3, e4⟩
  · exfalso
    omega
  · exact ⟨e1, by omega⟩
theorem tr_d {x L H u v a b c r : Int} (h : x = 1) (hb : b = 1) (e : tr_r u v a b c r) (i : ¬ r = 1) : sh_q x L H u v a b c = 0 := by
  rw [sh_q1 h]
  subst hb
  refine if_neg (fun g => i ?_)
  obtain ⟨g1, g2⟩ := g
  rcases e with ⟨e1, e2⟩ | ⟨e1, e2, e3, e4⟩
  · exact absurd g1 e1
  · omega
theorem sh_wy1 {x y L H u v a : Int} (h : x = 1) (hy : y = 2) (hu : 1 ≤ u) (hL : 1 ≤ L) (ha : 1 ≤ a) (hv : 1 ≤ v) : sh_s (sh_w x L H u v a) 1 (y - 1).toNat = sh_y x L H u v a := by
  have e : sh_y x L H u v a = sh_g L H u v a := if_pos h
  rw [e, hy, sh_ge hu hL ha hv, show ((2 : Int) - 1).toNat = 0 + 1 by decide, sh_s1]
  show 0 + sh_s (sh_q x L H u v a (1 + 0)) L (H + 1 - L).toNat = _
  rw [sh_q1 h]
  omega
theorem sh_wy2 {x y L H u v a : Int} (h : ¬ x = 1) (hy : y = H + 1) : sh_s (sh_w x L H u v a) a (y - a).toNat = sh_y x L H u v a := by
  have e : sh_y x L H u v a = sh_ta L H u v a := if_neg h
  rw [e, hy]
  unfold sh_ta
  refine sh_e _ (fun c _ _ => ?_)
  unfold sh_w sh_tb
  rw [sh_q2 h]
/-- what trains answers -/
def tr_P (L H n u v x y r : Int) : Prop := (¬ (0 ≤ x ∧ x < n ∧ 1 ≤ y ∧ y ≤ 2) ∧ r = -1) ∨ (0 ≤ x ∧ x < n ∧ ((y = 1 ∧ r = sh_t1 L H u v) ∨ (y = 2 ∧ ((60 < H - L ∧ r = -4) ∨ (H - L ≤ 60 ∧ r = sh_t2 L H u v)))))
theorem tr_one {L H n u v x y r r' : Int} (h : tr_P L H n u v x y r) (h' : tr_P L H n u v x y r') : r = r' := by
  unfold tr_P at h h'
  omega
theorem tr_Pi {L H n u v x y r : Int} (h1 : 0 ≤ x) (h2 : x < n) (h3 : 1 ≤ y ∧ y ≤ 2) (h4 : ¬ y = 1 → H - L ≤ 60) (h : r = sh_s (sh_y y L H u v) L (H + 1 - L).toNat) : tr_P L H n u v x y r := by
  by_cases e : y = 1
  · have f : sh_y y L H u v = sh_g L H u v := funext (fun _ => if_pos e)
    rw [f] at h
    exact Or.inr ⟨h1, h2, Or.inl ⟨e, h⟩⟩
  · have f : sh_y y L H u v = sh_ta L H u v := funext (fun _ => if_neg e)
    rw [f] at h
    exact Or.inr ⟨h1, h2, Or.inr ⟨by omega, Or.inr ⟨h4 e, h⟩⟩⟩
theorem cx_125_32 {b : Bool} {A : Nat → Nat} {h0 : g_H} {d : Nat} {M : xa_M} {post : Option xa_V → xa_M → Prop} (k1 : (((M 32 1) - (M 32 0)) ≤ 60) → post (some (0, 0, 0, 0, 0)) M) (k2 : (60 < ((M 32 1) - (M 32 0))) → post (some (0, 0, 1, 1, 1)) M) : xa_C (xl_I b) A h0 (d + 1) 125 [(2, 32, 0, 0, 0)] M post := by
  refine xa_C_arg [(2, 32, 0, 0, 0)] (xa_svR (xa_sv0)) ?_
  refine xa_meth (Q0 := (1, 2, false, 0, 0, 7)) (by decide +kernel) ⟨rfl, rfl⟩ (full := s_c_125) rfl rfl ?_
  intro hM hv Q hgo
  refine hgo.1 14 [] 0 _ _ _ ?_
  refine And.intro ?_ ?_
  · intro (c1 : ((M 32 1) - (M 32 0)) ≤ 60)
    show post (some (0, 0, 0, 0, 0)) M
    exact k1 c1
  · intro (c1 : 60 < ((M 32 1) - (M 32 0)))
    show post (some (0, 0, 1, 1, 1)) M
    exact k2 c1
theorem ct_fourthF {A : Nat → Nat} {h0 : g_H} {d : Nat} {M : xa_M} {post : Option xa_V → xa_M → Prop} {l1 u1 l2 u2 l3 u3 l4 u4 : Int} {p a b c : Int} (hI : xm_Inv M) (hp0 : 0 ≤ p) (hp1 : p < M 60 11) (ha0 : 1 ≤ a) (ha1 : a ≤ 400) (hb0 : 1 ≤ b) (hb1 : b ≤ 400) (hc0 : 10 ≤ c) (hc1 : c ≤ 400) (k : ∀ r : Int, (0 ≤ r ∧ r ≤ 1000) → tr_r (M 70 p) (M 71 p) a b c r → post (some (0, 0, 0, 1000, r)) M) : xa_C xm_I A h0 (d + 2) 258 [(2, 60, 0, 0, 0), (0, 0, l1, u1, p), (0, 0, l2, u2, a), (0, 0, l3, u3, b), (0, 0, l4, u4, c)] M post := by
  refine xa_C_asm (fun hM0 _ => ?_)
  have b110 := xm_f11 hM0
  refine xa_C_arg [(2, 60, 0, 0, 0), (0, 0, 0, 7, p), (0, 0, 1, 400, a), (0, 0, 1, 400, b), (0, 0, 10, 400, c)] (xa_svR (xa_svI (fun _ _ _ _ => by omega) (xa_svI (fun _ _ _ _ => by omega) (xa_svI (fun _ _ _ _ => by omega) (xa_svI (fun _ _ _ _ => by omega) xa_sv0))))) (xa_C_wk ?_)
  refine xa_meth (Q0 := (9, 1, false, 0, 0, 12)) (by decide +kernel) ⟨rfl, rfl⟩ (full := s_c_258) rfl rfl ?_
  intro hM hv Q hgo
  have b11 := xm_f11 hM
  have hp := hI.2.2.1 p hp0 hp1
  have t70 := xm_t70 hM p hp0 (by omega)
  have hc := xm_mulp (p := c) (q := M 70 p) (a := 400) (b := 2000) (by omega) (by omega) (by omega) (by omega)
  refine hgo.1 38 [] 0 _ _ _ ?_
  refine And.intro (show 0 < (c * (M 70 p)) by omega) ?_
  refine And.intro ?_ ?_
  · intro (c1 : ¬ (((a * b) * (M 71 p)) % (c * (M 70 p))) = 0)
    show xa_wk post (some (0, 0, 0, 0, 0)) M
    exact xa_wkI 0 rfl (fun _ _ => by omega) (k _ (by omega) (Or.inl ⟨c1, rfl⟩))
  · intro (c1 : (((a * b) * (M 71 p)) % (c * (M 70 p))) = 0)
    refine And.intro (show 0 < (c * (M 70 p)) by omega) ?_
    show xa_C xm_I A h0 _ 26 [(1, 0, 1000, 1000, 1000), (1, 0, 0, 320000000, ((a * b) * (M 71 p)) / (c * (M 70 p)))] M _
    refine ct_minL 0 1000 (by decide) (by decide) (by decide) (fun r2 br2 er2 => ?_)
    show xa_wk post (some (0, 0, 0, 1000, r2)) M
    exact xa_wkI r2 rfl (fun _ _ => by omega) (k _ (by omega) (Or.inr ⟨c1, er2⟩))

