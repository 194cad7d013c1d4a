-- nearest (class)
set_option maxRecDepth 20000
/-- how far a train is from what is wanted -/
def nr_d (u v a c : Int) : Int := ((a * v - c * u).natAbs : Int)
theorem nr_d0 {u v a c : Int} : 0 ≤ nr_d u v a c := Int.natCast_nonneg _
/-- the nearest, of equal ones that with the least c, then the least a -/
def nr_P (L H u v a c : Int) : Prop := (L ≤ a ∧ a ≤ H) ∧ (L ≤ c ∧ c ≤ H) ∧ ∀ x z : Int, L ≤ x → x ≤ H → L ≤ z → z ≤ H → nr_d u v a c * z ≤ nr_d u v x z * c ∧ (nr_d u v a c * z = nr_d u v x z * c → c < z ∨ (c = z ∧ a ≤ x))
/-- the nearest, of equal ones that with the fewest teeth, then the least a -/
def nr_Q (L H u v a c : Int) : Prop := (L ≤ a ∧ a ≤ H) ∧ (L ≤ c ∧ c ≤ H) ∧ ∀ x z : Int, L ≤ x → x ≤ H → L ≤ z → z ≤ H → nr_d u v a c * z ≤ nr_d u v x z * c ∧ (nr_d u v a c * z = nr_d u v x z * c → a + c < x + z ∨ (a + c = x + z ∧ a ≤ x))
theorem nr_abs {x c : Int} (hc : 0 ≤ c) : ((x.natAbs : Nat) : Int) * c = x * c ∨ ((x.natAbs : Nat) : Int) * c = -(x * c) := by
  by_cases h : 0 ≤ x
  · left
    rw [show ((x.natAbs : Nat) : Int) = x by omega]
  · right
    rw [show ((x.natAbs : Nat) : Int) = -x by omega, Int.neg_mul]
theorem nr_PQ {L H u v a c a' c' : Int} (hL : 1 ≤ L) (hv : 1 ≤ v) (hP : nr_P L H u v a c) (hQ : nr_Q L H u v a' c') : a = a' ∧ c = c' := by
  obtain ⟨pa, pc, p⟩ := hP
  obtain ⟨qa, qc, q⟩ := hQ
  obtain ⟨p1, p2⟩ := p a' c' qa.1 qa.2 qc.1 qc.2
  obtain ⟨q1, q2⟩ := q a c pa.1 pa.2 pc.1 pc.2
  have E : nr_d u v a c * c' = nr_d u v a' c' * c := by omega
  have p3 := p2 E
  have q3 := q2 E.symm
  rcases p3 with p3 | p3
  · exfalso
    have ha : a' < a := by omega
    obtain ⟨r1, r2⟩ := p a' c qa.1 qa.2 pc.1 pc.2
    have hc : 0 < c := by omega
    have hc' : 0 < c' := by omega
    have r3 : nr_d u v a c ≤ nr_d u v a' c := Int.le_of_mul_le_mul_right r1 hc
    have hX : (a' * v - c * u) * c' < (a * v - c * u) * c' := by
      refine Int.mul_lt_mul_of_pos_right ?_ hc'
      have := Int.mul_lt_mul_of_pos_right ha (show 0 < v by omega)
      omega
    have hY : (a' * v - c' * u) * c < (a' * v - c * u) * c' := by
      rw [Int.sub_mul, Int.sub_mul]
      have e : c * u * c' = c' * u * c := by
        rw [Int.mul_assoc, Int.mul_comm u c', ← Int.mul_assoc, Int.mul_comm c c', Int.mul_assoc, Int.mul_comm c u, ← Int.mul_assoc]
      have := Int.mul_lt_mul_of_pos_left p3 (Int.mul_pos (show 0 < a' by omega) (show 0 < v by omega))
      omega
    have r4 : nr_d u v a c * c' ≤ nr_d u v a' c * c' := Int.mul_le_mul_of_nonneg_right r3 (by omega)
    have n1 : nr_d u v a c * c' = (a * v - c * u) * c' ∨ nr_d u v a c * c' = -((a * v - c * u) * c') := nr_abs (by omega)
    have n2 : nr_d u v a' c' * c = (a' * v - c' * u) * c ∨ nr_d u v a' c' * c = -((a' * v - c' * u) * c) := nr_abs (by omega)
    have n3 : nr_d u v a' c * c' = (a' * v - c * u) * c' ∨ nr_d u v a' c * c' = -((a' * v - c * u) * c') := nr_abs (by omega)
    have m1 : 0 ≤ nr_d u v a c * c' := Int.mul_nonneg nr_d0 (by omega)
    omega
  · omega
/-- from one to the next -/
theorem nr_lt {p q r C t z : Int} (hC : 0 < C) (ht : 0 < t) (hz : 0 < z) (h1 : p * C < q * t) (h2 : q * z ≤ r * C) : p * z < r * t := by
  have g1 := Int.mul_lt_mul_of_pos_right h1 hz
  have g2 := Int.mul_le_mul_of_nonneg_right h2 (show 0 ≤ t by omega)
  have e1 : p * C * z = p * z * C := by rw [Int.mul_assoc, Int.mul_comm C z, ← Int.mul_assoc]
  have e2 : q * t * z = q * z * t := by rw [Int.mul_assoc, Int.mul_comm t z, ← Int.mul_assoc]
  have e3 : r * C * t = r * t * C := by rw [Int.mul_assoc, Int.mul_comm C t, ← Int.mul_assoc]
  exact Int.lt_of_mul_lt_mul_right (a := C) (by omega) (by omega)
theorem nr_le {p q r C t z : Int} (hC : 0 < C) (ht : 0 < t) (hz : 0 < z) (h1 : p * C = q * t) (h2 : q * z ≤ r * C) : p * z ≤ r * t ∧ (p * z = r * t → q * z = r * C) := by
  have e1 : p * C * z = p * z * C := by rw [Int.mul_assoc, Int.mul_comm C z, ← Int.mul_assoc]
  have e2 : q * t * z = q * z * t := by rw [Int.mul_assoc, Int.mul_comm t z, ← Int.mul_assoc]
  have e3 : r * C * t = r * t * C := by rw [Int.mul_assoc, Int.mul_comm C t, ← Int.mul_assoc]
  have g2 := Int.mul_le_mul_of_nonneg_right h2 (show 0 ≤ t by omega)
  rw [h1] at e1
  constructor
  · exact Int.le_of_mul_le_mul_right (a := C) (by omega) hC
  · intro h
    rw [h] at e1
    exact Int.eq_of_mul_eq_mul_right (show t ≠ 0 by omega) (by omega)
/-- below: the greater is the nearer -/
theorem nr_lo {u v a b c : Int} (hv : 1 ≤ v) (h : a ≤ b) (hb : b * v ≤ c * u) : nr_d u v b c ≤ nr_d u v a c ∧ (nr_d u v b c = nr_d u v a c → a = b) := by
  unfold nr_d
  have g := Int.mul_le_mul_of_nonneg_right h (show 0 ≤ v by omega)
  refine ⟨by omega, fun e => ?_⟩
  by_cases q : a = b
  · exact q
  · have := Int.mul_lt_mul_of_pos_right (show a < b by omega) (show 0 < v by omega)
    omega
theorem nr_hi {u v a b c : Int} (hv : 1 ≤ v) (h : b ≤ a) (hb : c * u ≤ b * v) : nr_d u v b c ≤ nr_d u v a c ∧ (nr_d u v b c = nr_d u v a c → a = b) := by
  unfold nr_d
  have g := Int.mul_le_mul_of_nonneg_right h (show 0 ≤ v by omega)
  refine ⟨by omega, fun e => ?_⟩
  by_cases q : a = b
  · exact q
  · have := Int.mul_lt_mul_of_pos_right (show b < a by omega) (show 0 < v by omega)
    omega
/-- the place n within L and H -/
def nr_c (L H n r : Int) : Prop := L ≤ r ∧ r ≤ H ∧ (n ≤ H → L ≤ n → r = n) ∧ (n < L → r = L) ∧ (H < n → r = H)
/-- one of the two about the quotient is as near as any, and only itself -/
theorem nr_row {L H u v c n a1 a2 x : Int} (hv : 1 ≤ v) (hn : n = u * c / v) (h1 : nr_c L H n a1) (h2 : nr_c L H (n + 1) a2) (x0 : L ≤ x) (x1 : x ≤ H) : (nr_d u v a1 c ≤ nr_d u v x c ∧ (nr_d u v a1 c = nr_d u v x c → x = a1)) ∨ (nr_d u v a2 c ≤ nr_d u v x c ∧ (nr_d u v a2 c = nr_d u v x c → x = a2)) := by
  have g1 := Int.ediv_mul_le (u * c) (show v ≠ 0 by omega)
  have g2 := Int.lt_ediv_add_one_mul_self (u * c) (show 0 < v by omega)
  rw [← hn, Int.mul_comm u c] at g1 g2
  obtain ⟨b1, b2, b3, b4, b5⟩ := h1
  obtain ⟨d1, d2, d3, d4, d5⟩ := h2
  by_cases h : x ≤ n
  · left
    refine nr_lo hv (by omega) ?_
    have := Int.mul_le_mul_of_nonneg_right (show a1 ≤ n by omega) (show 0 ≤ v by omega)
    omega
  · right
    refine nr_hi hv (by omega) ?_
    have := Int.mul_le_mul_of_nonneg_right (show n + 1 ≤ a2 by omega) (show 0 ≤ v by omega)
    omega
/-- nothing seen so far is better (class: rows before t) -/
def nr_S (L H u v t A C : Int) : Prop := ∀ x z : Int, L ≤ x → x ≤ H → L ≤ z → z < t → nr_d u v A C * z ≤ nr_d u v x z * C ∧ (nr_d u v A C * z = nr_d u v x z * C → C < z ∨ (C = z ∧ A ≤ x))
/-- nor the candidate a of the row t -/
def nr_K (u v t A C a : Int) : Prop := nr_d u v A C * t ≤ nr_d u v a t * C ∧ (nr_d u v A C * t = nr_d u v a t * C → C < t ∨ (C = t ∧ A ≤ a))
theorem nr_Sn {L H u v t A C w : Int} (hL : 1 ≤ L) (hC : 0 < C) (ht : 0 < t) (hS : nr_S L H u v t A C) (h : nr_d u v w t * C < nr_d u v A C * t) : nr_S L H u v t w t := by
  intro x z x0 x1 z0 z1
  have g := nr_lt hC ht (show 0 < z by omega) h (hS x z x0 x1 z0 z1).1
  exact ⟨by omega, fun e => by omega⟩
theorem nr_Kn {u v t A C a w : Int} (hC : 0 < C) (ht : 0 < t) (hK : nr_K u v t A C a) (h : nr_d u v w t * C < nr_d u v A C * t) : nr_K u v t w t a := by
  have g := nr_lt hC ht ht h hK.1
  exact ⟨by omega, fun e => by omega⟩
theorem nr_Ks {u v t w : Int} : nr_K u v t w t w := ⟨Int.le_refl _, fun _ => Or.inr ⟨rfl, Int.le_refl _⟩⟩
theorem nr_Ke {u v t A C w : Int} (h : nr_d u v A C * t ≤ nr_d u v w t * C) (g : C < t ∨ (C = t ∧ A ≤ w)) : nr_K u v t A C w := ⟨h, fun _ => g⟩
/-- the row is through -/
theorem nr_Sr {L H u v t A C n a1 a2 : Int} (hC : 0 < C) (hv : 1 ≤ v) (hn : n = u * t / v) (h1 : nr_c L H n a1) (h2 : nr_c L H (n + 1) a2) (hS : nr_S L H u v t A C) (k1 : nr_K u v t A C a1) (k2 : nr_K u v t A C a2) : nr_S L H u v (t + 1) A C := by
  intro x z x0 x1 z0 z1
  by_cases e : z = t
  · subst e
    rcases nr_row hv hn h1 h2 x0 x1 with ⟨g1, g2⟩ | ⟨g1, g2⟩
    · have m := Int.mul_le_mul_of_nonneg_right g1 (show 0 ≤ C by omega)
      refine ⟨Int.le_trans k1.1 m, fun e => ?_⟩
      have e2 : nr_d u v a1 z * C = nr_d u v x z * C := Int.le_antisymm m (by rw [← e]; exact k1.1)
      have e3 := Int.eq_of_mul_eq_mul_right (show C ≠ 0 by omega) e2
      rw [g2 e3]
      exact k1.2 (by rw [e2]; exact e)
    · have m := Int.mul_le_mul_of_nonneg_right g1 (show 0 ≤ C by omega)
      refine ⟨Int.le_trans k2.1 m, fun e => ?_⟩
      have e2 : nr_d u v a2 z * C = nr_d u v x z * C := Int.le_antisymm m (by rw [← e]; exact k2.1)
      have e3 := Int.eq_of_mul_eq_mul_right (show C ≠ 0 by omega) e2
      rw [g2 e3]
      exact k2.2 (by rw [e2]; exact e)
  · exact hS x z x0 x1 z0 (by omega)
/-- nothing seen so far is better (reference: all a before s, of s all c before t) -/
def nr_T (L H u v s t A C : Int) : Prop := ∀ x z : Int, L ≤ x → x ≤ H → L ≤ z → z ≤ H → (x < s ∨ (x = s ∧ z < t)) → nr_d u v A C * z ≤ nr_d u v x z * C ∧ (nr_d u v A C * z = nr_d u v x z * C → A + C < x + z ∨ (A + C = x + z ∧ A ≤ x))
/-- is it nearer -/
def nr_N (u v A C s t : Int) : Prop := nr_d u v s t * C < nr_d u v A C * t ∨ (nr_d u v s t * C = nr_d u v A C * t ∧ (s + t < A + C ∨ (s + t = A + C ∧ s < A)))
theorem nr_T1 {L H u v s t A C : Int} (hL : 1 ≤ L) (hC : 0 < C) (ht : 0 < t) (hT : nr_T L H u v s t A C) (h : nr_N u v A C s t) : nr_T L H u v s (t + 1) s t := by
  intro x z x0 x1 z0 z1 hs
  by_cases e : x = s ∧ z = t
  · rw [e.1, e.2]
    exact ⟨Int.le_refl _, fun _ => Or.inr ⟨rfl, Int.le_refl _⟩⟩
  · obtain ⟨g1, g2⟩ := hT x z x0 x1 z0 z1 (by omega)
    rcases h with h | ⟨h, h3⟩
    · have g := nr_lt hC ht (show 0 < z by omega) h g1
      exact ⟨by omega, fun e => by omega⟩
    · obtain ⟨m1, m2⟩ := nr_le hC ht (show 0 < z by omega) h g1
      refine ⟨m1, fun e => ?_⟩
      have := g2 (m2 e)
      omega
theorem nr_T0 {L H u v s t A C : Int} (hT : nr_T L H u v s t A C) (h : ¬ nr_N u v A C s t) : nr_T L H u v s (t + 1) A C := by
  intro x z x0 x1 z0 z1 hs
  by_cases e : x = s ∧ z = t
  · rw [e.1, e.2]
    unfold nr_N at h
    exact ⟨by omega, fun e => by omega⟩
  · exact hT x z x0 x1 z0 z1 (by omega)
theorem nr_Ti {L H u v s t A C : Int} (ht : H < t) (hT : nr_T L H u v s t A C) : nr_T L H u v (s + 1) L A C := by
  intro x z x0 x1 z0 z1 hs
  exact hT x z x0 x1 z0 z1 (by omega)
theorem nr_TQ {L H u v t A C : Int} (ha : L ≤ A ∧ A ≤ H) (hc : L ≤ C ∧ C ≤ H) (hT : nr_T L H u v (H + 1) t A C) : nr_Q L H u v A C := ⟨ha, hc, fun x z x0 x1 z0 z1 => hT x z x0 x1 z0 z1 (by omega)⟩
theorem nr_SP {L H u v A C : Int} (ha : L ≤ A ∧ A ≤ H) (hc : L ≤ C ∧ C ≤ H) (hS : nr_S L H u v (H + 1) A C) : nr_P L H u v A C := ⟨ha, hc, fun x z x0 x1 z0 z1 => hS x z x0 x1 z0 (by omega)⟩
/-- more, less or as wanted -/
def nr_s (y r : Int) : Prop := (y = 0 ∧ r = 0) ∨ (0 < y ∧ r = 1) ∨ (y < 0 ∧ r = 2)
theorem nr_Tf {L H u v s t : Int} (hs : s = L) (ht : t = L) : nr_T L H u v s (t + 1) s t := by
  intro x z x0 x1 z0 z1 h
  have e1 : x = s := by omega
  have e2 : z = t := by omega
  rw [e1, e2]
  exact ⟨Int.le_refl _, fun _ => Or.inr ⟨rfl, Int.le_refl _⟩⟩
/-- what nearest answers: the class, the reference -/
def nr_A (L H n u v x r : Int) : Prop := (¬ (0 ≤ x ∧ x < n) ∧ r = -1) ∨ ((0 ≤ x ∧ x < n) ∧ ∃ a c : Int, nr_P L H u v a c ∧ nr_s (a * v - c * u) r)
def nr_B (L H n u v x r : Int) : Prop := (¬ (0 ≤ x ∧ x < n) ∧ r = -1) ∨ ((0 ≤ x ∧ x < n) ∧ ∃ a c : Int, nr_Q L H u v a c ∧ nr_s (a * v - c * u) r)
theorem nr_AB {L H n u v x r r' : Int} (hL : 1 ≤ L) (hv : 0 ≤ x → x < n → 1 ≤ v) (h : nr_A L H n u v x r) (h' : nr_B L H n u v x r') : r = r' := by
  rcases h with ⟨h1, h2⟩ | ⟨h1, a, c, h2, h3⟩
  · rcases h' with ⟨-, g2⟩ | ⟨g1, -⟩
    · omega
    · exact absurd g1 h1
  · rcases h' with ⟨g1, -⟩ | ⟨-, a', c', g2, g3⟩
    · exact absurd h1 g1
    · obtain ⟨e1, e2⟩ := nr_PQ hL (hv h1.1 h1.2) h2 g2
      rw [← e1, ← e2] at g3
      unfold nr_s at h3 g3
      omega
theorem nr_Ae {L H n u v u' v' x r : Int} (h : nr_A L H n u v x r) (hu : 0 ≤ x → x < n → u = u' ∧ v = v') : nr_A L H n u' v' x r := by
  rcases h with h | ⟨h, g⟩
  · exact Or.inl h
  · obtain ⟨e1, e2⟩ := hu h.1 h.2
    rw [← e1, ← e2]
    exact Or.inr ⟨h, g⟩
theorem cx_55w {b : Bool} {A : Nat → Nat} {h0 : g_H} {d : Nat} {M : xa_M} {post : Option xa_V → xa_M → Prop} {l1 u1 l2 u2 x y : Int} (hx : -9223372036854775807 ≤ x ∧ x ≤ 9223372036854775807) (hy : -9223372036854775807 ≤ y ∧ y ≤ 9223372036854775807) (k : ∀ g : Int, 0 ≤ g → g ≤ 9223372036854775807 → post (some (1, 0, 0, 9223372036854775807, g)) M) : xa_C (xl_I b) A h0 (d + 2) 55 [(1, 0, l1, u1, x), (1, 0, l2, u2, y)] M post := by
  refine xa_C_wk ?_
  refine xa_C_arg [(1, 0, (-9223372036854775808), 9223372036854775807, x), (1, 0, (-9223372036854775808), 9223372036854775807, y)] (xa_svL (fun _ _ _ _ => by omega) (xa_svL (fun _ _ _ _ => by omega) xa_sv0)) ?_
  refine xa_meth (Q0 := (11, 3, false, 0, 0, 11)) (by decide +kernel) ⟨rfl, rfl⟩ (full := s_c_55) rfl rfl ?_
  intro hM hv Q hgo
  have loop : ∀ (f : Nat) (i a b9 : Int), 0 ≤ i ∧ i ≤ 100 → 0 ≤ a ∧ a ≤ 9223372036854775807 → 0 ≤ b9 ∧ b9 ≤ 9223372036854775807 → 100 - i < (f : Int) → Q 15 [(8, (0, 0, 0, 100, i)), (4, (1, 0, 0, 9223372036854775807, a)), (6, (1, 0, 0, 9223372036854775807, b9))] [] M := by
    intro f
    induction f with
    | zero => intro i a b9 i1 a1 b1 hms; omega
    | succ f ih =>
      intro i a b9 i1 a1 b1 hms
      refine hgo.1 21 [15] 15 _ _ _ ?_
      refine And.intro ?_ ?_
      · intro (c1 : 100 ≤ i)
        show xa_wk post (some (1, 0, 0, 9223372036854775807, a)) M
        exact xa_wkL a rfl (fun _ _ => by omega) (k a (by omega) (by omega))
      · intro (c1 : i < 100)
        refine And.intro ?_ ?_
        · intro (c2 : b9 = 0)
          show xa_wk post (some (1, 0, 0, 9223372036854775807, a)) M
          exact xa_wkL a rfl (fun _ _ => by omega) (k a (by omega) (by omega))
        · intro (c2 : ¬ b9 = 0)
          refine And.intro (show 0 < b9 by omega) ?_
          show Q 15 [(8, (0, 0, 1, 101, i + 1)), (6, (1, 0, 0, 9223372036854775806, a % b9)), (4, (1, 0, 0, 9223372036854775807, b9)), (9, (1, 0, 0, 9223372036854775806, a % b9))] [] M
          have m0 := Int.emod_nonneg a (show b9 ≠ 0 by omega)
          have m1 := Int.emod_lt_of_pos a (show 0 < b9 by omega)
          refine hgo.2.1 15 _ [(8, (0, 0, 0, 100, i + 1)), (4, (1, 0, 0, 9223372036854775807, b9)), (6, (1, 0, 0, 9223372036854775807, a % b9))] _ _ (xa_subI rfl rfl (fun _ _ _ _ => by omega) (xa_subL rfl rfl (fun _ _ _ _ => by omega) (xa_subL rfl rfl (fun _ _ _ _ => by omega) (xa_sub0)))) ?_
          exact ih (i + 1) b9 (a % b9) (by omega) (by omega) (by omega) (by omega)
  refine hgo.1 13 [15] 0 _ _ _ ?_
  show xa_C (xl_I b) A h0 _ 56 [(1, 0, (-9223372036854775808), 9223372036854775807, x)] M _
  refine ct_abs (lo := 0) (hi := 9223372036854775807) (show -9223372036854775808 < x by omega) (fun r119 h120 => ⟨by omega, ?_⟩)
  show xa_C (xl_I b) A h0 _ 56 [(1, 0, (-9223372036854775808), 9223372036854775807, y)] M _
  refine ct_abs (lo := 0) (hi := 9223372036854775807) (show -9223372036854775808 < y by omega) (fun r121 h122 => ⟨by omega, ?_⟩)
  show Q 15 [(8, (0, 0, 0, 0, 0)), (6, (1, 0, 0, 9223372036854775807, r121)), (4, (1, 0, 0, 9223372036854775807, r119)), (0, (1, 0, (-9223372036854775808), 9223372036854775807, x)), (2, (1, 0, (-9223372036854775808), 9223372036854775807, y))] [] M
  refine hgo.2.1 15 _ [(8, (0, 0, 0, 100, 0)), (4, (1, 0, 0, 9223372036854775807, r119)), (6, (1, 0, 0, 9223372036854775807, r121))] _ _ (xa_subI rfl rfl (fun _ _ _ _ => by omega) (xa_subL rfl rfl (fun _ _ _ _ => by omega) (xa_subL rfl rfl (fun _ _ _ _ => by omega) (xa_sub0)))) ?_
  exact loop 101 0 r119 r121 (by omega) (by omega) (by omega) (by omega)
theorem cx_21w {b : Bool} {A : Nat → Nat} {h0 : g_H} {d : Nat} {M : xa_M} {post : Option xa_V → xa_M → Prop} {l1 u1 l2 u2 x y : Int} (hy : 0 ≤ y ∧ y ≤ 9223372036854775807) (k : ∀ r : Int, post (some (1, 0, -9223372036854775808, 9223372036854775807, r)) M) : xa_C (xl_I b) A h0 (d + 1) 21 [(1, 0, l1, u1, x), (1, 0, l2, u2, y)] M post := by
  refine xa_C_wk ?_
  refine xa_C_arg [(1, 0, (-9223372036854775808), 9223372036854775807, x), (1, 0, 0, 9223372036854775807, y)] (xa_svL (fun _ _ _ _ => by omega) (xa_svL (fun _ _ _ _ => by omega) xa_sv0)) ?_
  refine xa_meth (Q0 := (4, 3, false, 0, 0, 11)) (by decide +kernel) ⟨rfl, rfl⟩ (full := s_c_21) rfl rfl ?_
  intro hM hv Q hgo
  refine hgo.1 11 [] 0 _ _ _ ?_
  refine And.intro ?_ ?_
  · intro (c1 : ¬ y = 0)
    refine And.intro (show 0 < y by omega) ?_
    show xa_wk post (some (1, 0, (-9223372036854775808), 9223372036854775807, x.tdiv y)) M
    exact xa_wkL _ rfl (fun _ _ => by omega) (k _)
  · intro (c1 : y = 0)
    show xa_wk post (some (1, 0, 0, 0, 0)) M
    exact xa_wkL _ rfl (fun _ _ => by omega) (k _)
theorem cx_71w {b : Bool} {A : Nat → Nat} {h0 : g_H} {d : Nat} {M : xa_M} {post : Option xa_V → xa_M → Prop} {N : xa_M} {l1 u1 l2 u2 x y : Int} (hkN : ∀ (q : Nat) (j : Int), ¬ (q = 48 ∨ q = 49) → M q j = N q j) (h48 : (0 : Int) ≤ M 48 1) (hx : -9223372036854775807 ≤ x ∧ x ≤ 9223372036854775807) (hy : -9223372036854775807 ≤ y ∧ y ≤ 9223372036854775807) (kN : ∀ M1 : xa_M, (∀ (q : Nat) (j : Int), ¬ (q = 48 ∨ q = 49) → M1 q j = N q j) → (0 : Int) ≤ M1 48 1 → post none M1) : xa_C (xl_I b) A h0 (d + 3) 71 [(2, 48, 0, 0, 0), (1, 0, l1, u1, x), (1, 0, l2, u2, y)] M post := by
  have k : ∀ M1 : xa_M, (∀ (q : Nat) (j : Int), ¬ (q = 48 ∨ q = 49) → M1 q j = M q j) → (0 : Int) ≤ M1 48 1 → post none M1 := fun M1 a9 b9 => kN M1 (fun q j hq => (a9 q j hq).trans (hkN q j hq)) b9
  refine xa_C_arg [(2, 48, 0, 0, 0), (1, 0, (-9223372036854775808), 9223372036854775807, x), (1, 0, (-9223372036854775808), 9223372036854775807, y)] (xa_svR (xa_svL (fun _ _ _ _ => by omega) (xa_svL (fun _ _ _ _ => by omega) xa_sv0))) ?_
  refine xa_meth (Q0 := (7, 0, false, 0, 0, 6)) (by decide +kernel) ⟨rfl, rfl⟩ (full := s_c_71) rfl rfl ?_
  intro hM hv Q hgo
  have hkr : ∀ (q : Nat) (j : Int), ¬ (q = 48 ∨ q = 49) → M q j = M q j := fun _ _ _ => rfl
  refine hgo.1 19 [] 0 _ _ _ ?_
  show xa_C (xl_I b) A h0 _ 55 [(1, 0, (-9223372036854775808), 9223372036854775807, x), (1, 0, (-9223372036854775808), 9223372036854775807, y)] M _
  refine cx_55w (by omega) (by omega) ?_
  intro g123 (i1 : 0 ≤ g123) (i2 : g123 ≤ 9223372036854775807)
  show xa_C (xl_I b) A h0 _ 21 [(1, 0, (-9223372036854775808), 9223372036854775807, x), (1, 0, 0, 9223372036854775807, g123)] M _
  refine cx_21w (by omega) ?_
  intro q124
  show xa_C (xl_I b) A h0 _ 60 [(2, 48, 0, 0, 0), (1, 0, (-9223372036854775808), 9223372036854775807, q124)] M _
  refine cx_60n (N := M) (by assumption) (by assumption) ?_
  intro M125 (i3 : ∀ (q : Nat) (j : Int), ¬ (q = 48 ∨ q = 49) → M125 q j = M q j) (i4 : (0 : Int) ≤ M125 48 1)
  show xa_C (xl_I b) A h0 _ 21 [(1, 0, (-9223372036854775808), 9223372036854775807, y), (1, 0, 0, 9223372036854775807, g123)] M125 _
  refine cx_21w (by omega) ?_
  intro q126
  show xa_C (xl_I b) A h0 _ 60 [(2, 48, 0, 0, 0), (1, 0, (-9223372036854775808), 9223372036854775807, q126)] M125 _
  refine cx_60n (N := M) (by assumption) (by assumption) ?_
  intro M127 (i5 : ∀ (q : Nat) (j : Int), ¬ (q = 48 ∨ q = 49) → M127 q j = M q j) (i6 : (0 : Int) ≤ M127 48 1)
  show post none M127
  exact k _ i5 i6
theorem cx_24m {b : Bool} {A : Nat → Nat} {h0 : g_H} {d : Nat} {M : xa_M} {post : Option xa_V → xa_M → Prop} {l1 u1 l2 u2 x y : Int} (hx : 0 ≤ x ∧ x ≤ 400) (hy : 0 ≤ y ∧ y ≤ 400) (k : ∀ r : Int, (x ≤ r ∧ y ≤ r ∧ (r = x ∨ r = y)) → post (some (1, 0, 0, 400, r)) M) : xa_C (xl_I b) A h0 (d + 1) 24 [(1, 0, l1, u1, x), (1, 0, l2, u2, y)] M post := by
  refine xa_C_wk ?_
  refine xa_C_arg [(1, 0, 0, 400, x), (1, 0, 0, 400, y)] (xa_svL (fun _ _ _ _ => by omega) (xa_svL (fun _ _ _ _ => by omega) xa_sv0)) ?_
  refine xa_meth (Q0 := (4, 3, false, 0, 0, 14)) (by decide +kernel) ⟨rfl, rfl⟩ (full := s_c_24) rfl rfl ?_
  intro hM hv Q hgo
  refine hgo.1 10 [] 0 _ _ _ ?_
  refine And.intro ?_ ?_
  · intro (c1 : x < y)
    show xa_wk post (some (1, 0, 0, 400, y)) M
    exact xa_wkL y rfl (fun _ _ => by omega) (k y ⟨by omega, by omega, by omega⟩)
  · intro (c1 : y ≤ x)
    show xa_wk post (some (1, 0, 0, 400, x)) M
    exact xa_wkL x rfl (fun _ _ => by omega) (k x ⟨by omega, by omega, by omega⟩)
theorem cx_131n {b : Bool} {A : Nat → Nat} {h0 : g_H} {d : Nat} {M : xa_M} {post : Option xa_V → xa_M → Prop} {l1 u1 x : Int} (hx : -9223372036854775807 ≤ x ∧ x ≤ 9223372036854775807) (k : ∀ r : Int, nr_s x r → post (some (0, 0, 0, 2, r)) M) : xa_C (xl_I b) A h0 (d + 1) 131 [(1, 0, l1, u1, x)] M post := by
  refine xa_C_wk ?_
  refine xa_C_arg [(1, 0, (-9223372036854775808), 9223372036854775807, x)] (xa_svL (fun _ _ _ _ => by omega) xa_sv0) ?_
  refine xa_meth (Q0 := (2, 1, false, 0, 0, 11)) (by decide +kernel) ⟨rfl, rfl⟩ (full := s_c_131) rfl rfl ?_
  intro hM hv Q hgo
  refine hgo.1 13 [] 0 _ _ _ ?_
  refine And.intro ?_ ?_
  · intro (c1 : ¬ x = 0)
    refine And.intro ?_ ?_
    · intro (c2 : x ≤ 0)
      show xa_wk post (some (0, 0, 2, 2, 2)) M
      exact xa_wkI 2 rfl (fun _ _ => by omega) (k 2 (by unfold nr_s; omega))
    · intro (c2 : 0 < x)
      show xa_wk post (some (0, 0, 1, 1, 1)) M
      exact xa_wkI 1 rfl (fun _ _ => by omega) (k 1 (by unfold nr_s; omega))
  · intro (c1 : x = 0)
    show xa_wk post (some (0, 0, 0, 0, 0)) M
    exact xa_wkI 0 rfl (fun _ _ => by omega) (k 0 (by unfold nr_s; omega))
theorem cx_130f {b : Bool} {A : Nat → Nat} {h0 : g_H} {d : Nat} {M : xa_M} {post : Option xa_V → xa_M → Prop} {l1 u1 l2 u2 uu vv : Int} (hL : 10 ≤ M 32 0 ∧ M 32 0 ≤ M 32 1 ∧ M 32 1 ≤ 400) (hU : 1 ≤ uu ∧ uu ≤ 2000) (hV : 1 ≤ vv ∧ vv ≤ 2000) (k : ∀ (M1 : xa_M) (r a c : Int), nr_P (M 32 0) (M 32 1) uu vv a c → nr_s (a * vv - c * uu) r → (∀ (q : Nat) (j : Int), ¬ (q = 48 ∨ q = 49) → M1 q j = M q j) → post (some (0, 0, 0, 2, r)) M1) : xa_C (xl_I b) A h0 (d + 4) 130 [(2, 32, 0, 0, 0), (1, 0, l1, u1, uu), (1, 0, l2, u2, vv), (2, 48, 0, 0, 0)] M post := by
  refine xa_C_wk ?_
  refine xa_C_arg [(2, 32, 0, 0, 0), (1, 0, 1, 2000, uu), (1, 0, 1, 2000, vv), (2, 48, 0, 0, 0)] (xa_svR (xa_svL (fun _ _ _ _ => by omega) (xa_svL (fun _ _ _ _ => by omega) (xa_svR xa_sv0)))) ?_
  refine xa_meth (Q0 := (17, 1, false, 0, 0, 7)) (by decide +kernel) ⟨rfl, rfl⟩ (full := s_c_130) rfl rfl ?_
  intro hM hv Q hgo
  have hkr : ∀ (q : Nat) (j : Int), ¬ (q = 48 ∨ q = 49) → M q j = M q j := fun _ _ _ => rfl
  have loop20 : ∀ (f : Nat) (tc tA tC : Int), M 32 0 ≤ tc ∧ tc ≤ M 32 1 + 1 → ((M 32 0 ≤ tA ∧ tA ≤ M 32 1) ∧ M 32 0 ≤ tC ∧ tC ≤ M 32 1) → nr_S (M 32 0) (M 32 1) uu vv tc tA tC → (tC < tc ∨ (tc = M 32 0 ∧ tA = M 32 0 ∧ tC = M 32 0)) → 401 - tc < (f : Int) → Q 20 [(10, (0, 0, 10, 401, tc)), (6, (1, 0, 10, 400, tA)), (8, (1, 0, 10, 400, tC)), (0, (2, 32, 0, 0, 0)), (1, (1, 0, 1, 2000, uu)), (3, (1, 0, 1, 2000, vv)), (5, (2, 48, 0, 0, 0))] [] M := by
    intro f
    induction f with
    | zero => intro tc tA tC h1 hR hS hG hms; omega
    | succ f ih20 =>
      intro tc tA tC h1 hR hS hG hms
      have p1 := xm_mulp (p := uu) (q := tc) (a := 2000) (b := 401) (by omega) (by omega) (by omega) (by omega)
      have p2 := xm_mulp (p := tA) (q := vv) (a := 400) (b := 2000) (by omega) (by omega) (by omega) (by omega)
      have p3 := xm_mulp (p := uu) (q := tC) (a := 2000) (b := 400) (by omega) (by omega) (by omega) (by omega)
      have p4 := xm_mulp (p := tC) (q := vv) (a := 400) (b := 2000) (by omega) (by omega) (by omega) (by omega)
      have loop44 : tc ≤ M 32 1 → ∀ (f : Nat) (tn tA tC : Int), uu * tc / vv ≤ tn ∧ tn ≤ uu * tc / vv + 2 → ((M 32 0 ≤ tA ∧ tA ≤ M 32 1) ∧ M 32 0 ≤ tC ∧ tC ≤ M 32 1) → nr_S (M 32 0) (M 32 1) uu vv tc tA tC → (∀ i : Int, uu * tc / vv ≤ i → i < tn → ∃ a9 : Int, nr_c (M 32 0) (M 32 1) i a9 ∧ nr_K uu vv tc tA tC a9) → (tC < tc ∨ (tC = tc ∧ ∀ w : Int, nr_c (M 32 0) (M 32 1) tn w → tA ≤ w)) → uu * tc / vv + 2 - tn < (f : Int) → Q 44 [(13, (1, 0, 0, 320000002, tn)), (11, (1, 0, 0, 320000000, (uu * tc) / vv)), (10, (0, 0, 10, 400, tc)), (6, (1, 0, 10, 400, tA)), (8, (1, 0, 10, 400, tC)), (0, (2, 32, 0, 0, 0)), (1, (1, 0, 1, 2000, uu)), (3, (1, 0, 1, 2000, vv)), (5, (2, 48, 0, 0, 0))] [] M := by
        intro htc f
        have q0 := Int.ediv_nonneg (show 0 ≤ uu * tc by exact Int.mul_nonneg (by omega) (by omega)) (show 0 ≤ vv by omega)
        have q1 := Int.ediv_le_self vv (show 0 ≤ uu * tc by omega)
        induction f with
        | zero => intro tn tA tC h2 hR hS hK hG hms; omega
        | succ f ih44 =>
          intro tn tA tC h2 hR hS hK hG hms
          refine hgo.1 53 [20, 44] 44 _ _ _ ?_
          refine And.intro ?_ ?_
          · intro (c1 : (((uu * tc) / vv) + 1) < tn)
            show Q 20 [(10, (0, 0, 11, 401, tc + 1)), (13, (1, 0, 0, 320000002, tn)), (11, (1, 0, 0, 320000000, (uu * tc) / vv)), (6, (1, 0, 10, 400, tA)), (8, (1, 0, 10, 400, tC)), (0, (2, 32, 0, 0, 0)), (1, (1, 0, 1, 2000, uu)), (3, (1, 0, 1, 2000, vv)), (5, (2, 48, 0, 0, 0))] [] M
            refine hgo.2.1 20 _ [(10, (0, 0, 10, 401, tc + 1)), (6, (1, 0, 10, 400, tA)), (8, (1, 0, 10, 400, tC)), (0, (2, 32, 0, 0, 0)), (1, (1, 0, 1, 2000, uu)), (3, (1, 0, 1, 2000, vv)), (5, (2, 48, 0, 0, 0))] _ _ (xa_subI rfl rfl (fun _ _ _ _ => by omega) (xa_subL rfl rfl (fun _ _ _ _ => by omega) (xa_subL rfl rfl (fun _ _ _ _ => by omega) (xa_subR rfl (xa_subL rfl rfl (fun _ _ _ _ => by omega) (xa_subL rfl rfl (fun _ _ _ _ => by omega) (xa_subR rfl (xa_sub0)))))))) ?_
            obtain ⟨a1, g1, g2⟩ := hK (uu * tc / vv) (Int.le_refl _) (by omega)
            obtain ⟨a2, g3, g4⟩ := hK (uu * tc / vv + 1) (by omega) (by omega)
            exact ih20 (tc + 1) tA tC (by omega) hR (nr_Sr (by omega) (by omega) rfl g1 g3 hS g2 g4) (Or.inl (by rcases hG with hG | hG; omega; omega)) (by omega)
          · intro (c1 : tn ≤ (((uu * tc) / vv) + 1))
            show xa_C (xl_I b) A h0 _ 26 [(1, 0, 10, 400, M 32 1), (1, 0, 0, 320000002, tn)] M _
            refine ct_minL 0 400 (by decide) (by decide) (by decide) ?_
            intro r128 (i2 : 0 ≤ r128 ∧ r128 ≤ 400) (i3 : r128 ≤ (M 32 1) ∧ r128 ≤ tn ∧ (r128 = (M 32 1) ∨ r128 = tn))
            show xa_C (xl_I b) A h0 _ 24 [(1, 0, 10, 400, M 32 0), (1, 0, 0, 400, r128)] M _
            refine cx_24m (by omega) (by omega) ?_
            intro r129 (i4 : (M 32 0) ≤ r129 ∧ r128 ≤ r129 ∧ (r129 = (M 32 0) ∨ r129 = r128))
            show xa_C (xl_I b) A h0 _ 56 [(1, 0, (-800000), 799990, (r129 * vv) - (uu * tc))] M _
            refine ct_absb 800000 (by decide) (by decide) (by decide) ?_
            intro r130 (i5 : r130 = (((r129 * vv) - (uu * tc)).natAbs : Int))
            show xa_C (xl_I b) A h0 _ 56 [(1, 0, (-799990), 799990, (tA * vv) - (uu * tC))] M _
            refine ct_absb 800000 (by decide) (by decide) (by decide) ?_
            intro r131 (i6 : r131 = (((tA * vv) - (uu * tC)).natAbs : Int))
            refine And.intro ?_ ?_
            · intro (c7 : (r131 * tc) ≤ (r130 * tC))
              show Q 44 [(13, (1, 0, 1, 320000003, tn + 1)), (15, (1, 0, 0, 400, r129)), (11, (1, 0, 0, 320000000, (uu * tc) / vv)), (10, (0, 0, 10, 400, tc)), (6, (1, 0, 10, 400, tA)), (8, (1, 0, 10, 400, tC)), (0, (2, 32, 0, 0, 0)), (1, (1, 0, 1, 2000, uu)), (3, (1, 0, 1, 2000, vv)), (5, (2, 48, 0, 0, 0))] [] M
              refine hgo.2.1 44 _ [(13, (1, 0, 0, 320000002, tn + 1)), (11, (1, 0, 0, 320000000, (uu * tc) / vv)), (10, (0, 0, 10, 400, tc)), (6, (1, 0, 10, 400, tA)), (8, (1, 0, 10, 400, tC)), (0, (2, 32, 0, 0, 0)), (1, (1, 0, 1, 2000, uu)), (3, (1, 0, 1, 2000, vv)), (5, (2, 48, 0, 0, 0))] _ _ (xa_subL rfl rfl (fun _ _ _ _ => by omega) (xa_subL rfl rfl (fun _ _ _ _ => by omega) (xa_subI rfl rfl (fun _ _ _ _ => by omega) (xa_subL rfl rfl (fun _ _ _ _ => by omega) (xa_subL rfl rfl (fun _ _ _ _ => by omega) (xa_subR rfl (xa_subL rfl rfl (fun _ _ _ _ => by omega) (xa_subL rfl rfl (fun _ _ _ _ => by omega) (xa_subR rfl (xa_sub0)))))))))) ?_
              have hw : nr_c (M 32 0) (M 32 1) tn r129 := by
                unfold nr_c
                omega
              have d1 : r130 = nr_d uu vv r129 tc := by
                rw [i5, Int.mul_comm uu tc]
                rfl
              have d2 : r131 = nr_d uu vv tA tC := by
                rw [i6, Int.mul_comm uu tC]
                rfl
              have d3 := c7
              rw [d1, d2] at d3
              exact ih44 (tn + 1) tA tC (by omega) (by omega) hS (fun i i0 i1 => by
                by_cases e : i = tn
                · rw [e]
                  refine ⟨r129, hw, nr_Ke d3 ?_⟩
                  rcases hG with hG | ⟨hG, hG2⟩
                  · exact Or.inl hG
                  · exact Or.inr ⟨hG, hG2 _ hw⟩
                · exact hK i i0 (by omega)) (by
                rcases hG with hG | ⟨hG, hG2⟩
                · exact Or.inl hG
                · refine Or.inr ⟨hG, fun w hw2 => ?_⟩
                  have := hG2 _ hw
                  unfold nr_c at hw hw2
                  omega) (by omega)
            · intro (c7 : (r130 * tC) < (r131 * tc))
              show Q 44 [(13, (1, 0, 1, 320000003, tn + 1)), (8, (1, 0, 10, 400, tc)), (6, (1, 0, 0, 400, r129)), (15, (1, 0, 0, 400, r129)), (11, (1, 0, 0, 320000000, (uu * tc) / vv)), (10, (0, 0, 10, 400, tc)), (0, (2, 32, 0, 0, 0)), (1, (1, 0, 1, 2000, uu)), (3, (1, 0, 1, 2000, vv)), (5, (2, 48, 0, 0, 0))] [] M
              refine hgo.2.1 44 _ [(13, (1, 0, 0, 320000002, tn + 1)), (11, (1, 0, 0, 320000000, (uu * tc) / vv)), (10, (0, 0, 10, 400, tc)), (6, (1, 0, 10, 400, r129)), (8, (1, 0, 10, 400, tc)), (0, (2, 32, 0, 0, 0)), (1, (1, 0, 1, 2000, uu)), (3, (1, 0, 1, 2000, vv)), (5, (2, 48, 0, 0, 0))] _ _ (xa_subL rfl rfl (fun _ _ _ _ => by omega) (xa_subL rfl rfl (fun _ _ _ _ => by omega) (xa_subI rfl rfl (fun _ _ _ _ => by omega) (xa_subL rfl rfl (fun _ _ _ _ => by omega) (xa_subL rfl rfl (fun _ _ _ _ => by omega) (xa_subR rfl (xa_subL rfl rfl (fun _ _ _ _ => by omega) (xa_subL rfl rfl (fun _ _ _ _ => by omega) (xa_subR rfl (xa_sub0)))))))))) ?_
              have hw : nr_c (M 32 0) (M 32 1) tn r129 := by
                unfold nr_c
                omega
              have d1 : r130 = nr_d uu vv r129 tc := by
                rw [i5, Int.mul_comm uu tc]
                rfl
              have d2 : r131 = nr_d uu vv tA tC := by
                rw [i6, Int.mul_comm uu tC]
                rfl
              have d3 := c7
              rw [d1, d2] at d3
              exact ih44 (tn + 1) r129 tc (by omega) (by omega) (nr_Sn (by omega) (by omega) (by omega) hS d3) (fun i i0 i1 => by
                by_cases e : i = tn
                · rw [e]
                  exact ⟨r129, hw, nr_Ks⟩
                · obtain ⟨a9, g1, g2⟩ := hK i i0 (by omega)
                  exact ⟨a9, g1, nr_Kn (by omega) (by omega) g2 d3⟩) (Or.inr ⟨rfl, fun w hw2 => by
                unfold nr_c at hw hw2
                omega⟩) (by omega)
      refine hgo.1 33 [20, 44] 20 _ _ _ ?_
      refine And.intro ?_ ?_
      · intro (c1 : (M 32 1) < tc)
        show xa_C (xl_I b) A h0 _ 59 [(2, 48, 0, 0, 0)] M _
        refine cx_59n (N := M) (by assumption) ?_
        intro M132 (i2 : ∀ (q : Nat) (j : Int), ¬ (q = 48 ∨ q = 49) → M132 q j = M q j) (i3 : (0 : Int) ≤ M132 48 1)
        show xa_C (xl_I b) A h0 _ 60 [(2, 48, 0, 0, 0), (1, 0, 10, 400, tA)] M132 _
        refine cx_60n (N := M) (by assumption) (by assumption) ?_
        intro M133 (i4 : ∀ (q : Nat) (j : Int), ¬ (q = 48 ∨ q = 49) → M133 q j = M q j) (i5 : (0 : Int) ≤ M133 48 1)
        show xa_C (xl_I b) A h0 _ 60 [(2, 48, 0, 0, 0), (1, 0, 10, 400, tC)] M133 _
        refine cx_60n (N := M) (by assumption) (by assumption) ?_
        intro M134 (i6 : ∀ (q : Nat) (j : Int), ¬ (q = 48 ∨ q = 49) → M134 q j = M q j) (i7 : (0 : Int) ≤ M134 48 1)
        show xa_C (xl_I b) A h0 _ 71 [(2, 48, 0, 0, 0), (1, 0, (-799990), 799990, (tA * vv) - (uu * tC)), (1, 0, 10, 800000, tC * vv)] M134 _
        refine cx_71w (N := M) (by assumption) (by assumption) (by omega) (by omega) ?_
        intro M135 (i8 : ∀ (q : Nat) (j : Int), ¬ (q = 48 ∨ q = 49) → M135 q j = M q j) (i9 : (0 : Int) ≤ M135 48 1)
        show xa_C (xl_I b) A h0 _ 131 [(1, 0, (-799990), 799990, (tA * vv) - (uu * tC))] M135 _
        refine cx_131n (by omega) ?_
        intro r136 (i10 : nr_s ((tA * vv) - (uu * tC)) r136)
        show xa_wk post (some (0, 0, 0, 2, r136)) M135
        have e : tc = M 32 1 + 1 := by omega
        rw [e] at hS
        refine xa_wkI _ rfl (fun _ _ => by omega) (k _ _ tA tC (nr_SP hR.1 hR.2 hS) ?_ i8)
        rw [Int.mul_comm tC uu]
        exact i10
      · intro (c1 : tc ≤ (M 32 1))
        show xa_C (xl_I b) A h0 _ 21 [(1, 0, 10, 802000, uu * tc), (1, 0, 1, 2000, vv)] M _
        refine cx_21h (by omega) (by omega) ?_
        show Q 44 [(13, (1, 0, 0, 320000000, (uu * tc) / vv)), (11, (1, 0, 0, 320000000, (uu * tc) / vv)), (10, (0, 0, 10, 401, tc)), (6, (1, 0, 10, 400, tA)), (8, (1, 0, 10, 400, tC)), (0, (2, 32, 0, 0, 0)), (1, (1, 0, 1, 2000, uu)), (3, (1, 0, 1, 2000, vv)), (5, (2, 48, 0, 0, 0))] [] M
        refine hgo.2.1 44 _ [(13, (1, 0, 0, 320000002, (uu * tc) / vv)), (11, (1, 0, 0, 320000000, (uu * tc) / vv)), (10, (0, 0, 10, 400, tc)), (6, (1, 0, 10, 400, tA)), (8, (1, 0, 10, 400, tC)), (0, (2, 32, 0, 0, 0)), (1, (1, 0, 1, 2000, uu)), (3, (1, 0, 1, 2000, vv)), (5, (2, 48, 0, 0, 0))] _ _ (xa_subL rfl rfl (fun _ _ _ _ => by omega) (xa_subL rfl rfl (fun _ _ _ _ => by omega) (xa_subI rfl rfl (fun _ _ _ _ => by omega) (xa_subL rfl rfl (fun _ _ _ _ => by omega) (xa_subL rfl rfl (fun _ _ _ _ => by omega) (xa_subR rfl (xa_subL rfl rfl (fun _ _ _ _ => by omega) (xa_subL rfl rfl (fun _ _ _ _ => by omega) (xa_subR rfl (xa_sub0)))))))))) ?_
        exact loop44 (by omega) 4 (uu * tc / vv) tA tC (by omega) hR hS (fun i i0 i1 => by omega) (by
          rcases hG with hG | ⟨hG, hG2, hG3⟩
          · exact Or.inl hG
          · refine Or.inr ⟨by omega, fun w hw => ?_⟩
            unfold nr_c at hw
            omega) (by omega)
  refine hgo.1 16 [20, 44] 0 _ _ _ ?_
  show Q 20 [(10, (0, 0, 10, 400, M 32 0)), (8, (1, 0, 10, 400, M 32 0)), (6, (1, 0, 10, 400, M 32 0)), (0, (2, 32, 0, 0, 0)), (1, (1, 0, 1, 2000, uu)), (3, (1, 0, 1, 2000, vv)), (5, (2, 48, 0, 0, 0))] [] M
  refine hgo.2.1 20 _ [(10, (0, 0, 10, 401, M 32 0)), (6, (1, 0, 10, 400, M 32 0)), (8, (1, 0, 10, 400, M 32 0)), (0, (2, 32, 0, 0, 0)), (1, (1, 0, 1, 2000, uu)), (3, (1, 0, 1, 2000, vv)), (5, (2, 48, 0, 0, 0))] _ _ (xa_subI rfl rfl (fun _ _ _ _ => by omega) (xa_subL rfl rfl (fun _ _ _ _ => by omega) (xa_subL rfl rfl (fun _ _ _ _ => by omega) (xa_subR rfl (xa_subL rfl rfl (fun _ _ _ _ => by omega) (xa_subL rfl rfl (fun _ _ _ _ => by omega) (xa_subR rfl (xa_sub0)))))))) ?_
  exact loop20 402 (M 32 0) (M 32 0) (M 32 0) (by omega) (by omega) (fun x z x0 x1 z0 z1 => by omega) (Or.inr ⟨rfl, rfl, rfl⟩) (by omega)
