-- nearest (class)
set_option maxRecDepth 20000
/-- how far a train is from what is wanted -/
def nr_d (u v a c : Int) : Int := ((a * v - c * u).natAbs : Int)
theorem nr_d0 {u v a c : Int} : 0 ≤ nr_d u v a c := Int.natCast_nonneg _
/-- the nearest, of equal ones that with the least c, then the least a -/
def nr_P (L H u v a c : Int) : Prop := (L ≤ a ∧ a ≤ H) ∧ (L ≤ c ∧ c ≤ H) ∧ ∀ x z : Int, L ≤ x → x ≤ H → L ≤ z → z ≤ H → nr_d u v a c * z ≤ nr_d u v x z * c ∧ (nr_d u v a c * z = nr_d u v x z * c → c < z ∨ (c = z ∧ a ≤ x))
/-- the nearest, of equal ones that with the fewest teeth, then the least a -/
def nr_Q (L H u v a c : Int) : Prop := (L ≤ a ∧ a ≤ H) ∧ (L ≤ c ∧ c ≤ H) ∧ ∀ x z : Int, L ≤ x → x ≤ H → L ≤ z → z ≤ H → nr_d u v a c * z ≤ nr_d u v x z * c ∧ (nr_d u v a c * z = nr_d u v x z * c → a + c < x + z ∨ (a + c = x + z ∧ a ≤ x))
theorem nr_abs {x c : Int} (hc : 0 ≤ c) : ((x.natAbs : Nat) : Int) * c = x * c ∨ ((x.natAbs : Nat) : Int) * c = -(x * c) := by
  by_cases h : 0 ≤ x
  · left
    rw [show ((x.natAbs : Nat) : Int) = x by omega]
  · right
    rw [show ((x.natAbs : Nat) : Int) = -x by omega, Int.neg_mul]
theorem nr_PQ {L H u v a c a' c' : Int} (hL : 1 ≤ L) (hv : 1 ≤ v) (hP : nr_P L H u v a c) (hQ : nr_Q L H u v a' c') : a = a' ∧ c = c' := by
  obtain ⟨pa, pc, p⟩ := hP
  obtain ⟨qa, qc, q⟩ := hQ
  obtain ⟨p1, p2⟩ := p a' c' qa.1 qa.2 qc.1 qc.2
  obtain ⟨q1, q2⟩ := q a c pa.1 pa.2 pc.1 pc.2
  have E : nr_d u v a c * c' = nr_d u v a' c' * c := by omega
  have p3 := p2 E
  have q3 := q2 E.symm
  rcases p3 with p3 | p3
  · exfalso
    have ha : a' < a := by omega
    obtain ⟨r1, r2⟩ := p a' c qa.1 qa.2 pc.1 pc.2
    have hc : 0 < c := by omega
    have hc' : 0 < c' := by omega
    have r3 : nr_d u v a c ≤ nr_d u v a' c := Int.le_of_mul_le_mul_right r1 hc
    have hX : (a' * v - c * u) * c' < (a * v - c * u) * c' := by
      refine Int.mul_lt_mul_of_pos_right ?_ hc'
      have := Int.mul_lt_mul_of_pos_right ha (show 0 < v by omega)
      omega
    have hY : (a' * v - c' * u) * c < (a' * v - c * u) * c' := by
      rw [Int.sub_mul, Int.sub_mul]
      have e : c * u * c' = c' * u * c := by
        rw [Int.mul_assoc, Int.mul_comm u c', ← Int.mul_assoc, Int.mul_comm c c', Int.mul_assoc, Int.mul_comm c u, ← Int.mul_assoc]
      have := Int.mul_lt_mul_of_pos_left p3 (Int.mul_pos (show 0 < a' by omega) (show 0 < v by omega))
      omega
    have r4 : nr_d u v a c * c' ≤ nr_d u v a' c * c' := Int.mul_le_mul_of_nonneg_right r3 (by omega)
    have n1 : nr_d u v a c * c' = (a * v - c * u) * c' ∨ nr_d u v a c * c' = -((a * v - c * u) * c') := nr_abs (by omega)
    have n2 : nr_d u v a' c' * c = (a' * v - c' * u) * c ∨ nr_d u v a' c' * c = -((a' * v - c' * u) * c) := nr_abs (by omega)
    have n3 : nr_d u v a' c * c' = (a' * v - c * u) * c' ∨ nr_d u v a' c * c' = -((a' * v - c * u) * c') := nr_abs (by omega)
    have m1 : 0 ≤ nr_d u v a c * c' := Int.mul_nonneg nr_d0 (by omega)
    omega
  · omega
/-- from one to the next -/
theorem nr_lt {p q r C t z : Int} (hC : 0 < C) (ht : 0 < t) (hz : 0 < z) (h1 : p * C < q * t) (h2 : q * z ≤ r * C) : p * z < r * t := by
  have g1 := Int.mul_lt_mul_of_pos_right h1 hz
  have g2 := Int.mul_le_mul_of_nonneg_right h2 (show 0 ≤ t by omega)
  have e1 : p * C * z = p * z * C := by rw [Int.mul_assoc, Int.mul_comm C z, ← Int.mul_assoc]
  have e2 : q * t * z = q * z * t := by rw [Int.mul_assoc, Int.mul_comm t z, ← Int.mul_assoc]
  have e3 : r * C * t = r * t * C := by rw [Int.mul_assoc, Int.mul_comm C t, ← Int.mul_assoc]
  exact Int.lt_of_mul_lt_mul_right (a := C) (by omega) (by omega)
theorem nr_le {p q r C t z : Int} (hC : 0 < C) (ht : 0 < t) (hz : 0 < z) (h1 : p * C = q * t) (h2 : q * z ≤ r * C) : p * z ≤ r * t ∧ (p * z = r * t → q * z = r * C) := by
  have e1 : p * C * z = p * z * C := by rw [Int.mul_assoc, Int.mul_comm C z, ← Int.mul_assoc]
  have e2 : q * t * z = q * z * t := by rw [Int.mul_assoc, Int.mul_comm t z, ← Int.mul_assoc]
  have e3 : r * C * t = r * t * C := by rw [Int.mul_assoc, Int.mul_comm C t, ← Int.mul_assoc]
  have g2 := Int.mul_le_mul_of_nonneg_right h2 (show 0 ≤ t by omega)
  rw [h1] at e1
  constructor
  · exact Int.le_of_mul_le_mul_right (a := C) (by omega) hC
  · intro h
    rw [h] at e1
    exact Int.eq_of_mul_eq_mul_right (show t ≠ 0 by omega) (by omega)
/-- below: the greater is the nearer -/
theorem nr_lo {u v a b c : Int} (hv : 1 ≤ v) (h : a ≤ b) (hb : b * v ≤ c * u) : nr_d u v b c ≤ nr_d u v a c ∧ (nr_d u v b c = nr_d u v a c → a = b) := by
  unfold nr_d
  have g := Int.mul_le_mul_of_nonneg_right h (show 0 ≤ v by omega)
  refine ⟨by omega, fun e => ?_⟩
  by_cases q : a = b
  · exact q
  · have := Int.mul_lt_mul_of_pos_right (show a < b by omega) (show 0 < v by omega)
    omega
theorem nr_hi {u v a b c : Int} (hv : 1 ≤ v) (h : b ≤ a) (hb : c * u ≤ b * v) : nr_d u v b c ≤ nr_d u v a c ∧ (nr_d u v b c = nr_d u v a c → a = b) := by
  unfold nr_d
  have g := Int.mul_le_mul_of_nonneg_right h (show 0 ≤ v by omega)
  refine ⟨by omega, fun e => ?_⟩
  by_cases q : a = b
  · exact q
  · have := Int.mul_lt_mul_of_pos_right (show b < a by omega) (show 0 < v by omega)
    omega
/-- the place n within L and H -/
def nr_c (L H n r : Int) : Prop := L ≤ r ∧ r ≤ H ∧ (n ≤ H → L ≤ n → r = n) ∧ (n < L → r = L) ∧ (H < n → r = H)
/-- one of the two about the quotient is as near as any, and only itself -/
theorem nr_row {L H u v c n a1 a2 x : Int} (hv : 1 ≤ v) (hn : n = u * c / v) (h1 : nr_c L H n a1) (h2 : nr_c L H (n + 1) a2) (x0 : L ≤ x) (x1 : x ≤ H) : (nr_d u v a1 c ≤ nr_d u v x c ∧ (nr_d u v a1 c = nr_d u v x c → x = a1)) ∨ (nr_d u v a2 c ≤ nr_d u v x c ∧ (nr_d u v a2 c = nr_d u v x c → x = a2)) := by
  have g1 := Int.ediv_mul_le (u * c) (show v ≠ 0 by omega)
  have g2 := Int.lt_ediv_add_one_mul_self (u * c) (show 0 < v by omega)
  rw [← hn, Int.mul_comm u c] at g1 g2
  obtain ⟨b1, b2, b3, b4, b5⟩ := h1
  obtain ⟨d1, d2, d3, d4, d5⟩ := h2
  by_cases h : x ≤ n
  · left
    refine nr_lo hv (by omega) ?_
    have := Int.mul_le_mul_of_nonneg_right (show a1 ≤ n by omega) (show 0 ≤ v by omega)
    omega
  · right
    refine nr_hi hv (by omega) ?_
    have := Int.mul_le_mul_of_nonneg_right (show n + 1 ≤ a2 by omega) (show 0 ≤ v by omega)
    omega
/-- nothing seen so far is better (class: rows before t) -/
def nr_S (L H u v t A C : Int) : Prop := ∀ x z : Int, L ≤ x → x ≤ H → L ≤ z → z < t → nr_d u v A C * z ≤ nr_d u v x z * C ∧ (nr_d u v A C * z = nr_d u v x z * C → C < z ∨ (C = z ∧ A ≤ x))
/-- nor the candidate a of the row t -/
def nr_K (u v t A C a : Int) : Prop := nr_d u v A C * t ≤ nr_d u v a t * C ∧ (nr_d u v A C * t = nr_d u v a t * C → C < t ∨ (C = t ∧ A ≤ a))
theorem nr_Sn {L H u v t A C w : Int} (hL : 1 ≤ L) (hC : 0 < C) (ht : 0 < t) (hS : nr_S L H u v t A C) (h : nr_d u v w t * C < nr_d u v A C * t) : nr_S L H u v t w t := by
  intro x z x0 x1 z0 z1
  have g := nr_lt hC ht (show 0 < z by omega) h (hS x z x0 x1 z0 z1).1
  exact ⟨by omega, fun e => by omega⟩
theorem nr_Kn {u v t A C a w : Int} (hC : 0 < C) (ht : 0 < t) (hK : nr_K u v t A C a) (h : nr_d u v w t * C < nr_d u v A C * t) : nr_K u v t w t a := by
  have g := nr_lt hC ht ht h hK.1
  exact ⟨by omega, fun e => by omega⟩
theorem nr_Ks {u v t w : Int} : nr_K u v t w t w := ⟨Int.le_refl _, fun _ => Or.inr ⟨rfl, Int.le_refl _⟩⟩
theorem nr_Ke {u v t A C w : Int} (h : nr_d u v A C * t ≤ nr_d u v w t * C) (g : C < t ∨ (C = t ∧ A ≤ w)) : nr_K u v t A C w := ⟨h, fun _ => g⟩
/-- the row is through -/
theorem nr_Sr {L H u v t A C n a1 a2 : Int} (hC : 0 < C) (hv : 1 ≤ v) (hn : n = u * t / v) (h1 : nr_c L H n a1) (h2 : nr_c L H (n + 1) a2) (hS : nr_S L H u v t A C) (k1 : nr_K u v t A C a1) (k2 : nr_K u v t A C a2) : nr_S L H u v (t + 1) A C := by
  intro x z x0 x1 z0 z1
  by_cases e : z = t
  · subst e
    rcases nr_row hv hn h1 h2 x0 x1 with ⟨g1, g2⟩ | ⟨g1, g2⟩
    · have m := Int.mul_le_mul_of_nonneg_right g1 (show 0 ≤ C by omega)
      refine ⟨Int.le_trans k1.1 m, fun e => ?_⟩
      have e2 : nr_d u v a1 z * C = nr_d u v x z * C := Int.le_antisymm m (by rw [← e]; exact k1.1)
      have e3 := Int.eq_of_mul_eq_mul_right (show C ≠ 0 by omega) e2
      rw [g2 e3]
      exact k1.2 (by rw [e2]; exact e)
    · have m := Int.mul_le_mul_of_nonneg_right g1 (show 0 ≤ C by omega)
      refine ⟨Int.le_trans k2.1 m, fun e => ?_⟩
      have e2 : nr_d u v a2 z * C = nr_d u v x z * C := Int.le_antisymm m (by rw [← e]; exact k2.1)
      have e3 := Int.eq_of_mul_eq_mul_right (show C ≠ 0 by omega) e2
      rw [g2 e3]
      exact k2.2 (by rw [e2]; exact e)
  · exact hS x z x0 x1 z0 (by omega)
/-- nothing seen so far is better (reference: all a before s, of s all c before t) -/
def nr_T (L H u v s t A C : Int) : Prop := ∀ x z : Int, L ≤ x → x ≤ H → L ≤ z → z ≤ H → (x < s ∨ (x = s ∧ z < t)) → nr_d u v A C * z ≤ nr_d u v x z * C ∧ (nr_d u v A C * z = nr_d u v x z * C → A + C < x + z ∨ (A + C = x + z ∧ A ≤ x))
/-- is it nearer -/
def nr_N (u v A C s t : Int) : Prop := nr_d u v s t * C < nr_d u v A C * t ∨ (nr_d u v s t * C = nr_d u v A C * t ∧ (s + t < A + C ∨ (s + t = A + C ∧ s < A)))
theorem nr_T1 {L H u v s t A C : Int} (hL : 1 ≤ L) (hC : 0 < C) (ht : 0 < t) (hT : nr_T L H u v s t A C) (h : nr_N u v A C s t) : nr_T L H u v s (t + 1) s t := by
  intro x z x0 x1 z0 z1 hs
  by_cases e : x = s ∧ z = t
  · rw [e.1, e.2]
    exact ⟨Int.le_refl _, fun _ => Or.inr ⟨rfl, Int.le_refl _⟩⟩
  · obtain ⟨g1, g2⟩ := hT x z x0 x1 z0 z1 (by omega)
    rcases h with h | ⟨h, h3⟩
    · have g := nr_lt hC ht (show 0 < z by omega) h g1
      exact ⟨by omega, fun e => by omega⟩
    · obtain ⟨m1, m2⟩ := nr_le hC ht (show 0 < z by omega) h g1
      refine ⟨m1, fun e => ?_⟩
      have := g2 (m2 e)
      omega
theorem nr_T0 {L H u v s t A C : Int} (hT : nr_T L H u v s t A C) (h : ¬ nr_N u v A C s t) : nr_T L H u v s (t + 1) A C := by
  intro x z x0 x1 z0 z1 hs
  by_cases e : x = s ∧ z = t
  · rw [e.1, e.2]
    unfold nr_N at h
    exact ⟨by omega, fun e => by omega⟩
  · exact hT x z x0 x1 z0 z1 (by omega)
theorem nr_Ti {L H u v s t A C : Int} (ht : H < t) (hT : nr_T L H u v s t A C) : nr_T L H u v (s + 1) L A C := by
  intro x z x0 x1 z0 z1 hs
  exact hT x z x0 x1 z0 z1 (by omega)
theorem nr_TQ {L H u v t A C : Int} (ha : L ≤ A ∧ A ≤ H) (hc : L ≤ C ∧ C ≤ H) (hT : nr_T L H u v (H + 1) t A C) : nr_Q L H u v A C := ⟨ha, hc, fun x z x0 x1 z0 z1 => hT x z x0 x1 z0 z1 (by omega)⟩
theorem nr_SP {L H u v A C : Int} (ha : L ≤ A ∧ A ≤ H) (hc : L ≤ C ∧ C ≤ H) (hS : nr_S L H u v (H + 1) A C) : nr_P L H u v A C := ⟨ha, hc, fun x z x0 x1 z0 z1 => hS x z x0 x1 z0 (by omega)⟩
/-- more, less or as wanted -/
def nr_s (y r : Int) : Prop := (y = 0 ∧ r = 0) ∨ (0 < y ∧ r = 1) ∨ (y < 0 ∧ r = 2)
theorem nr_Tf {L H u v s t : Int} (hs : s = L) (ht : t = L) : nr_T L H u v s (t + 1) s t := by
  intro x z x0 x1 z0 z1 h
  have e1 : x = s := by omega
  have e2 : z = t := by omega
  rw [e1, e2]
  exact ⟨Int.le_refl _, fun _ => Or.inr ⟨rfl, Int.le_refl _⟩⟩
/-- what nearest answers: the class, the reference -/
def nr_A (L H n u v x r : Int) : Prop := (¬ (0 ≤ x ∧ x < n) ∧ r = -1) ∨ ((0 ≤ x ∧ x < n) ∧ ∃ a c : Int, nr_P L H u v a c ∧ nr_s (a * v - c * u) r)
def nr_B (L H n u v x r : Int) : Prop := (¬ (0 ≤ x ∧ x < n) ∧ r = -1) ∨ ((0 ≤ x ∧ x < n) ∧ ∃ a c : Int, nr_Q L H u v a c ∧ nr_s (a * v - c * u) r)
theorem nr_AB {L H n u v x r r' : Int} (hL : 1 ≤ L) (hv : 0 ≤ x → x < n → 1 ≤ v) (h : nr_A L H n u v x r) (h' : nr_B L H n u v x r') : r = r' := by
  rcases h with ⟨h1, h2⟩ | ⟨h1, a, c, h2, h3⟩
  · rcases h' with ⟨-, g2⟩ | ⟨g1, -⟩
    · omega
    · exact absurd g1 h1
  · rcases h' with ⟨g1, -⟩ | ⟨-, a', c', g2, g3⟩
    · exact absurd h1 g1
    · obtain ⟨e1, e2⟩ := nr_PQ hL (hv h1.1 h1.2) h2 g2
      rw [← e1, ← e2] at g3
      unfold nr_s at h3 g3
      omega
theorem nr_Ae {L H n u v u' v' x r : Int} (h : nr_A L H n u v x r) (hu : 0 ≤ x → x < n → u = u' ∧ v = v') : nr_A L H n u' v' x r := by
  rcases h with h | ⟨h, g⟩
  · exact Or.inl h
  · obtain ⟨e1, e2⟩ := hu h.1 h.2
    rw [← e1, ← e2]
    exact Or.inr ⟨h, g⟩
theorem cx_24m {b : Bool} {A : Nat → Nat} {h0 : g_H} {d : Nat} {M : xa_M} {post : Option xa_V → xa_M → Prop} {l1 u1 l2 u2 x y : Int} (hx : 0 ≤ x ∧ x ≤ 400) (hy : 0 ≤ y ∧ y ≤ 400) (k : ∀ r : Int, (x ≤ r ∧ y ≤ r ∧ (r = x ∨ r = y)) → post (some (1, 0, 0, 400, r)) M) : xa_C (xl_I b) A h0 (d + 1) 24 [(1, 0, l1, u1, x), (1, 0, l2, u2, y)] M post := by
  refine xa_C_wk ?_
  refine xa_C_arg [(1, 0, 0, 400, x), (1, 0, 0, 400, y)] (xa_svL (fun _ _ _ _ => by omega) (xa_svL (fun _ _ _ _ => by omega) xa_sv0)) ?_
  refine xa_meth (Q0 := (4, 3, false, 0, 0, 14)) (by decide +kernel) ⟨rfl, rfl⟩ (full := s_c_24) rfl rfl ?_
  intro hM hv Q hgo
  refine hgo.1 10 [] 0 _ _ _ ?_
  refine And.intro ?_ ?_
  · intro (c1 : x < y)
    show xa_wk post (some (1, 0, 0, 400, y)) M
    exact xa_wkL y rfl (fun _ _ => by omega) (k y ⟨by omega, by omega, by omega⟩)
  · intro (c1 : y ≤ x)
    show xa_wk post (some (1, 0, 0, 400, x)) M
    exact xa_wkL x rfl (fun _ _ => by omega) (k x ⟨by omega, by omega, by omega⟩)
theorem cx_131n {b : Bool} {A : Nat → Nat} {h0 : g_H} {d : Nat} {M : xa_M} {post : Option xa_V → xa_M → Prop} {l1 u1 x : Int} (hx : -9223372036854775807 ≤ x ∧ x ≤ 9223372036854775807) (k : ∀ r : Int, nr_s x r → post (some (0, 0, 0, 2, r)) M) : xa_C (xl_I b) A h0 (d + 1) 131 [(1, 0, l1, u1, x)] M post := by
  refine xa_C_wk ?_
  refine xa_C_arg [(1, 0, (-9223372036854775808), 9223372036854775807, x)] (xa_svL (fun _ _ _ _ => by omega) xa_sv0) ?_
  refine xa_meth (Q0 := (2, 1, false, 0, 0, 11)) (by decide +kernel) ⟨rfl, rfl⟩ (full := s_c_131) rfl rfl ?_
  intro hM hv Q hgo
  refine hgo.1 13 [] 0 _ _ _ ?_
  refine And.intro ?_ ?_
  · intro (c1 : ¬ x = 0)
    refine And.intro ?_ ?_
    · intro (c2 : x ≤ 0)
      show xa_wk post (some (0, 0, 2, 2, 2)) M
      exact xa_wkI 2 rfl (fun _ _ => by omega) (k 2 (by unfold nr_s; omega))
    · intro (c2 : 0 < x)
      show xa_wk post (some (0, 0, 1, 1, 1)) M
      exact xa_wkI 1 rfl (fun _ _ => by omega) (k 1 (by unfold nr_s; omega))
  · intro (c1 : x = 0)
    show xa_wk post (some (0, 0, 0, 0, 0)) M
    exact xa_wkI 0 rfl (fun _ _ => by omega) (k 0 (by unfold nr_s; omega))
