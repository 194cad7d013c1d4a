-- joined: 75.xm15, 76.xm16, 77.xm17
section
-- slot of the model (made by wip/p24/xa/xm14.py)
set_option maxRecDepth 20000
theorem ms_slot {A : Nat → Nat} {h0 : g_H} {d : Nat} {M : xa_M} {post : Option xa_V → xa_M → Prop} {l1 u1 l2 u2 l3 u3 l4 u4 : Int} {a b c e : Int} (hI : xm_Inv M) (k : ∀ (o : Option xa_V) (M1 : xa_M), xm_cor M M1 → post o M1) : xa_C xm_I A h0 (d + 4) 270 [(2, 60, 0, 0, 0), (0, 0, l1, u1, a), (0, 0, l2, u2, b), (0, 0, l3, u3, c), (0, 0, l4, u4, e)] M post := by
  refine xa_C_arg [(2, 60, 0, 0, 0), (0, 0, (-2147483648), 2147483647, a), (0, 0, (-2147483648), 2147483647, b), (0, 0, (-2147483648), 2147483647, c), (0, 0, (-2147483648), 2147483647, e)] (xa_svR (xa_svI (fun _ _ _ _ => by omega) (xa_svI (fun _ _ _ _ => by omega) (xa_svI (fun _ _ _ _ => by omega) (xa_svI (fun _ _ _ _ => by omega) xa_sv0))))) ?_
  refine xa_meth (Q0 := (9, 1, false, 0, 0, 12)) (by decide +kernel) ⟨rfl, rfl⟩ (full := s_c_270) rfl rfl ?_
  intro hM hv Q hgo
  have und : 0 ≤ a → a < b → b ≤ 100 → 1 ≤ e → e ≤ 20 → -e ≤ c → c ≤ e → 1 ≤ b * b * e - 2 * a * b * c + a * a * e := by
    intro h1 h2 h3 h4 h5 h6 h7
    have hab : 0 ≤ a * b := Int.mul_nonneg h1 (by omega)
    have k1 : a * b * c ≤ a * b * e := Int.mul_le_mul_of_nonneg_left h7 hab
    have k2 : 1 ≤ (b - a) * (b - a) := (xm_mulp (p := b - a) (q := b - a) (a := 100) (b := 100) (by omega) (by omega) (by omega) (by omega)).1
    have k3 : 1 ≤ (b - a) * (b - a) * e := by
      have := Int.mul_pos (show 0 < (b - a) * (b - a) by omega) (show 0 < e by omega)
      omega
    have k4 : (b - a) * (b - a) * e = b * b * e - 2 * (a * b * e) + a * a * e := by
      simp only [Int.sub_mul, Int.mul_sub, Int.mul_comm b a]
      omega
    have k5 : 2 * a * b * c = 2 * (a * b * c) := by
      rw [Int.mul_assoc 2 a b, Int.mul_assoc 2 (a * b) c]
    omega
  refine hgo.1 25 [37] 0 _ _ _ ?_
  show xa_C xm_I A h0 _ 214 [(0, 0, (-2147483648), 2147483647, a), (0, 0, 0, 0, 0), (0, 0, 99, 99, 99)] (xa_up M 60 21 0) _
  refine ct_in ?_ ?_
  · intro (i1 : 0 ≤ a ∧ a ≤ 99)
    refine And.intro ?_ ?_
    · intro (c2 : b ≤ a)
      show post (some (0, 0, (-1), (-1), (-1))) (xa_up M 60 21 0)
      exact k _ _ (xm_cor_f (by omega) xm_cor_r)
    · intro (c2 : a < b)
      refine And.intro ?_ ?_
      · intro (c3 : 100 < b)
        show post (some (0, 0, (-1), (-1), (-1))) (xa_up M 60 21 0)
        exact k _ _ (xm_cor_f (by omega) xm_cor_r)
      · intro (c3 : b ≤ 100)
        show xa_C xm_I A h0 _ 214 [(0, 0, (-2147483648), 2147483647, e), (0, 0, 1, 1, 1), (0, 0, 20, 20, 20)] (xa_up M 60 21 0) _
        refine ct_in ?_ ?_
        · intro (i4 : 1 ≤ e ∧ e ≤ 20)
          show Q 37 [(0, (2, 60, 0, 0, 0)), (1, (0, 0, (-2147483648), 2147483647, a)), (2, (0, 0, (-2147483648), 2147483647, b)), (3, (0, 0, (-2147483648), 2147483647, c)), (4, (0, 0, (-2147483648), 2147483647, e))] [] (xa_up M 60 21 0)
          refine hgo.2.1 37 _ [(0, (2, 60, 0, 0, 0)), (1, (0, 0, (-2147483648), 2147483647, a)), (2, (0, 0, (-2147483648), 2147483647, b)), (3, (0, 0, (-2147483648), 2147483647, c)), (4, (0, 0, 1, 20, e))] _ _ (xa_subR rfl (xa_subI rfl rfl (fun _ _ _ _ => by omega) (xa_subI rfl rfl (fun _ _ _ _ => by omega) (xa_subI rfl rfl (fun _ _ _ _ => by omega) (xa_subI rfl rfl (fun _ _ _ _ => by omega) xa_sub0))))) ?_
          refine hgo.1 12 [51] 37 _ _ _ ?_
          show xa_C xm_I A h0 _ 214 [(0, 0, (-2147483648), 2147483647, c), (0, 0, (-20), (-1), -e), (0, 0, 1, 20, e)] (xa_up M 60 21 0) _
          refine ct_in ?_ ?_
          · intro (i105 : (-e) ≤ c ∧ c ≤ e)
            show Q 51 [(0, (2, 60, 0, 0, 0)), (1, (0, 0, (-2147483648), 2147483647, a)), (2, (0, 0, (-2147483648), 2147483647, b)), (3, (0, 0, (-2147483648), 2147483647, c)), (4, (0, 0, 1, 20, e))] [] (xa_up M 60 21 0)
            refine hgo.2.1 51 _ [(0, (2, 60, 0, 0, 0)), (1, (0, 0, 0, 99, a)), (2, (0, 0, 1, 100, b)), (3, (0, 0, (-20), 20, c)), (4, (0, 0, 1, 20, e))] _ _ (xa_subR rfl (xa_subI rfl rfl (fun _ _ _ _ => by omega) (xa_subI rfl rfl (fun _ _ _ _ => by omega) (xa_subI rfl rfl (fun _ _ _ _ => by omega) (xa_subI rfl rfl (fun _ _ _ _ => by omega) xa_sub0))))) ?_
            have und1 := und (by omega) (by omega) (by omega) (by omega) (by omega) (by omega) (by omega)
            refine hgo.1 10 [56, 60, 65, 68, 69, 76, 80, 86, 89, 92, 93, 98, 102, 103] 51 _ _ _ ?_
            show Q 56 [(0, (2, 60, 0, 0, 0)), (1, (0, 0, 0, 99, a)), (2, (0, 0, 1, 100, b)), (3, (0, 0, (-20), 20, c)), (4, (0, 0, 1, 20, e))] [(1, 0, 1, 10000, b * b)] (xa_up M 60 21 0)
            refine hgo.1 8 [56, 60, 65, 68, 69, 76, 80, 86, 89, 92, 93, 98, 102, 103] 56 _ _ _ ?_
            show Q 60 [(0, (2, 60, 0, 0, 0)), (1, (0, 0, 0, 99, a)), (2, (0, 0, 1, 100, b)), (3, (0, 0, (-20), 20, c)), (4, (0, 0, 1, 20, e))] [(1, 0, 1, 200000, (b * b) * e)] (xa_up M 60 21 0)
            refine hgo.1 10 [56, 60, 65, 68, 69, 76, 80, 86, 89, 92, 93, 98, 102, 103] 60 _ _ _ ?_
            show Q 65 [(0, (2, 60, 0, 0, 0)), (1, (0, 0, 0, 99, a)), (2, (0, 0, 1, 100, b)), (3, (0, 0, (-20), 20, c)), (4, (0, 0, 1, 20, e))] [(1, 0, 0, 9900, a * b), (1, 0, 1, 200000, (b * b) * e)] (xa_up M 60 21 0)
            refine hgo.1 8 [56, 60, 65, 68, 69, 76, 80, 86, 89, 92, 93, 98, 102, 103] 65 _ _ _ ?_
            show Q 68 [(0, (2, 60, 0, 0, 0)), (1, (0, 0, 0, 99, a)), (2, (0, 0, 1, 100, b)), (3, (0, 0, (-20), 20, c)), (4, (0, 0, 1, 20, e))] [(1, 0, (-198000), 198000, (a * b) * c), (1, 0, 1, 200000, (b * b) * e)] (xa_up M 60 21 0)
            refine hgo.1 6 [56, 60, 65, 68, 69, 76, 80, 86, 89, 92, 93, 98, 102, 103] 68 _ _ _ ?_
            show Q 69 [(0, (2, 60, 0, 0, 0)), (1, (0, 0, 0, 99, a)), (2, (0, 0, 1, 100, b)), (3, (0, 0, (-20), 20, c)), (4, (0, 0, 1, 20, e))] [(1, 0, (-197999), 398000, ((b * b) * e) - ((a * b) * c))] (xa_up M 60 21 0)
            refine hgo.1 11 [56, 60, 65, 68, 69, 76, 80, 86, 89, 92, 93, 98, 102, 103] 69 _ _ _ ?_
            show Q 76 [(5, (1, 0, (-197999), 398000, ((b * b) * e) - ((a * b) * c))), (0, (2, 60, 0, 0, 0)), (1, (0, 0, 0, 99, a)), (2, (0, 0, 1, 100, b)), (3, (0, 0, (-20), 20, c)), (4, (0, 0, 1, 20, e))] [(1, 0, 1, 10000, b * b)] (xa_up M 60 21 0)
            refine hgo.1 8 [56, 60, 65, 68, 69, 76, 80, 86, 89, 92, 93, 98, 102, 103] 76 _ _ _ ?_
            show Q 80 [(5, (1, 0, (-197999), 398000, ((b * b) * e) - ((a * b) * c))), (0, (2, 60, 0, 0, 0)), (1, (0, 0, 0, 99, a)), (2, (0, 0, 1, 100, b)), (3, (0, 0, (-20), 20, c)), (4, (0, 0, 1, 20, e))] [(1, 0, 1, 200000, (b * b) * e)] (xa_up M 60 21 0)
            refine hgo.1 9 [56, 60, 65, 68, 69, 76, 80, 86, 89, 92, 93, 98, 102, 103] 80 _ _ _ ?_
            show Q 86 [(5, (1, 0, (-197999), 398000, ((b * b) * e) - ((a * b) * c))), (0, (2, 60, 0, 0, 0)), (1, (0, 0, 0, 99, a)), (2, (0, 0, 1, 100, b)), (3, (0, 0, (-20), 20, c)), (4, (0, 0, 1, 20, e))] [(1, 0, 0, 198, 2 * a), (1, 0, 1, 200000, (b * b) * e)] (xa_up M 60 21 0)
            refine hgo.1 8 [56, 60, 65, 68, 69, 76, 80, 86, 89, 92, 93, 98, 102, 103] 86 _ _ _ ?_
            show Q 89 [(5, (1, 0, (-197999), 398000, ((b * b) * e) - ((a * b) * c))), (0, (2, 60, 0, 0, 0)), (1, (0, 0, 0, 99, a)), (2, (0, 0, 1, 100, b)), (3, (0, 0, (-20), 20, c)), (4, (0, 0, 1, 20, e))] [(1, 0, 0, 19800, (2 * a) * b), (1, 0, 1, 200000, (b * b) * e)] (xa_up M 60 21 0)
            refine hgo.1 8 [56, 60, 65, 68, 69, 76, 80, 86, 89, 92, 93, 98, 102, 103] 89 _ _ _ ?_
            show Q 92 [(5, (1, 0, (-197999), 398000, ((b * b) * e) - ((a * b) * c))), (0, (2, 60, 0, 0, 0)), (1, (0, 0, 0, 99, a)), (2, (0, 0, 1, 100, b)), (3, (0, 0, (-20), 20, c)), (4, (0, 0, 1, 20, e))] [(1, 0, (-396000), 396000, ((2 * a) * b) * c), (1, 0, 1, 200000, (b * b) * e)] (xa_up M 60 21 0)
            refine hgo.1 6 [56, 60, 65, 68, 69, 76, 80, 86, 89, 92, 93, 98, 102, 103] 92 _ _ _ ?_
            show Q 93 [(5, (1, 0, (-197999), 398000, ((b * b) * e) - ((a * b) * c))), (0, (2, 60, 0, 0, 0)), (1, (0, 0, 0, 99, a)), (2, (0, 0, 1, 100, b)), (3, (0, 0, (-20), 20, c)), (4, (0, 0, 1, 20, e))] [(1, 0, (-395999), 596000, ((b * b) * e) - (((2 * a) * b) * c))] (xa_up M 60 21 0)
            refine hgo.1 10 [56, 60, 65, 68, 69, 76, 80, 86, 89, 92, 93, 98, 102, 103] 93 _ _ _ ?_
            show Q 98 [(5, (1, 0, (-197999), 398000, ((b * b) * e) - ((a * b) * c))), (0, (2, 60, 0, 0, 0)), (1, (0, 0, 0, 99, a)), (2, (0, 0, 1, 100, b)), (3, (0, 0, (-20), 20, c)), (4, (0, 0, 1, 20, e))] [(1, 0, 0, 9801, a * a), (1, 0, (-395999), 596000, ((b * b) * e) - (((2 * a) * b) * c))] (xa_up M 60 21 0)
            refine hgo.1 8 [56, 60, 65, 68, 69, 76, 80, 86, 89, 92, 93, 98, 102, 103] 98 _ _ _ ?_
            show Q 102 [(5, (1, 0, (-197999), 398000, ((b * b) * e) - ((a * b) * c))), (0, (2, 60, 0, 0, 0)), (1, (0, 0, 0, 99, a)), (2, (0, 0, 1, 100, b)), (3, (0, 0, (-20), 20, c)), (4, (0, 0, 1, 20, e))] [(1, 0, 0, 196020, (a * a) * e), (1, 0, (-395999), 596000, ((b * b) * e) - (((2 * a) * b) * c))] (xa_up M 60 21 0)
            refine hgo.1 6 [56, 60, 65, 68, 69, 76, 80, 86, 89, 92, 93, 98, 102, 103] 102 _ _ _ ?_
            show Q 103 [(5, (1, 0, (-197999), 398000, ((b * b) * e) - ((a * b) * c))), (0, (2, 60, 0, 0, 0)), (1, (0, 0, 0, 99, a)), (2, (0, 0, 1, 100, b)), (3, (0, 0, (-20), 20, c)), (4, (0, 0, 1, 20, e))] [(1, 0, (-395999), 792020, (((b * b) * e) - (((2 * a) * b) * c)) + ((a * a) * e))] (xa_up M 60 21 0)
            refine hgo.1 21 [56, 60, 65, 68, 69, 76, 80, 86, 89, 92, 93, 98, 102, 103] 103 _ _ _ ?_
            show xa_C xm_I A h0 _ 230 [(2, 60, 0, 0, 0), (1, 0, (-197999), 398000, ((b * b) * e) - ((a * b) * c)), (1, 0, (-395999), 792020, (((b * b) * e) - (((2 * a) * b) * c)) + ((a * a) * e))] (xa_up (xa_up M 60 21 0) 60 20 0) _
            refine ct_tellPart (n := 0) (by first | rfl | (simp [xa_up]; done)) (by decide) (by decide) (by decide) (by omega) (fun g486 eg486 pg486 qg486 => ?_)
            refine And.intro ?_ ?_
            · intro (c487 : (((b * b) * e) - ((a * b) * c)) ≤ ((((b * b) * e) - (((2 * a) * b) * c)) + ((a * a) * e)))
              refine And.intro ?_ ?_
              · intro (c488 : ((((b * b) * e) - (((2 * a) * b) * c)) + ((a * a) * e)) ≤ (((b * b) * e) - ((a * b) * c)))
                show post (some (0, 0, 0, 0, 0)) (xa_up (xa_up (xa_up (xa_up (xa_up (xa_up M 60 21 0) 60 20 0) 74 0 ((((b * b) * e) - ((a * b) * c)).tdiv g486)) 60 20 1) 74 1 (((((b * b) * e) - (((2 * a) * b) * c)) + ((a * a) * e)).tdiv g486)) 60 20 2)
                exact k _ _ (xm_cor_f (by omega) (xm_cor_a rfl (xm_cor_f (by omega) (xm_cor_a rfl (xm_cor_f (by omega) (xm_cor_f (by omega) xm_cor_r))))))
              · intro (c488 : (((b * b) * e) - ((a * b) * c)) < ((((b * b) * e) - (((2 * a) * b) * c)) + ((a * a) * e)))
                show post (some (0, 0, 2, 2, 2)) (xa_up (xa_up (xa_up (xa_up (xa_up (xa_up M 60 21 0) 60 20 0) 74 0 ((((b * b) * e) - ((a * b) * c)).tdiv g486)) 60 20 1) 74 1 (((((b * b) * e) - (((2 * a) * b) * c)) + ((a * a) * e)).tdiv g486)) 60 20 2)
                exact k _ _ (xm_cor_f (by omega) (xm_cor_a rfl (xm_cor_f (by omega) (xm_cor_a rfl (xm_cor_f (by omega) (xm_cor_f (by omega) xm_cor_r))))))
            · intro (c487 : ((((b * b) * e) - (((2 * a) * b) * c)) + ((a * a) * e)) < (((b * b) * e) - ((a * b) * c)))
              show post (some (0, 0, 1, 1, 1)) (xa_up (xa_up (xa_up (xa_up (xa_up (xa_up M 60 21 0) 60 20 0) 74 0 ((((b * b) * e) - ((a * b) * c)).tdiv g486)) 60 20 1) 74 1 (((((b * b) * e) - (((2 * a) * b) * c)) + ((a * a) * e)).tdiv g486)) 60 20 2)
              exact k _ _ (xm_cor_f (by omega) (xm_cor_a rfl (xm_cor_f (by omega) (xm_cor_a rfl (xm_cor_f (by omega) (xm_cor_f (by omega) xm_cor_r))))))
          · intro (i105 : ¬ ((-e) ≤ c ∧ c ≤ e))
            show post (some (0, 0, (-1), (-1), (-1))) (xa_up M 60 21 0)
            exact k _ _ (xm_cor_f (by omega) xm_cor_r)
        · intro (i4 : ¬ (1 ≤ e ∧ e ≤ 20))
          show post (some (0, 0, (-1), (-1), (-1))) (xa_up M 60 21 0)
          exact k _ _ (xm_cor_f (by omega) xm_cor_r)
  · intro (i1 : ¬ (0 ≤ a ∧ a ≤ 99))
    show post (some (0, 0, (-1), (-1), (-1))) (xa_up M 60 21 0)
    exact k _ _ (xm_cor_f (by omega) xm_cor_r)
end
section
-- areTooMany, firstWay, nextWay of the model (made by wip/p24/xa/xm15.py)
set_option maxRecDepth 20000
/-- tried alone differs -/
def xm_84 (M M1 : xa_M) : Prop := ∀ q j, q ≠ 84 → M1 q j = M q j
theorem xm_84_r {M : xa_M} : xm_84 M M := fun _ _ _ => rfl
theorem xm_84_u {M M1 : xa_M} {i v : Int} (h : xm_84 M M1) : xm_84 M (xa_up M1 84 i v) := by
  intro q j hq
  have := h q j hq
  simp [xa_up, hq, this]
theorem xm_84_c {M M1 : xa_M} (h : xm_84 M M1) : xm_cor M M1 := by
  intro q j hs
  refine h q j (fun e => hs ?_)
  subst e
  exact Or.inl (by decide)
/-- the numbers tried lie between the least and the most of their wheels -/
def xm_fit (M : xa_M) : Prop := ∀ i, 0 ≤ i → i < M 60 32 → M 61 (M 80 i) ≤ M 84 i ∧ M 84 i ≤ M 62 (M 80 i)
/-- what a wheel of the way can have; how many ways; how many are left at most -/
def xm_sp (M : xa_M) (k : Int) : Int := M 62 (M 80 k) - M 61 (M 80 k) + 1
def xm_pr (M : xa_M) : Nat → Int
  | 0 => 1
  | k + 1 => xm_pr M k * xm_sp M k
def xm_rk (M : xa_M) : Nat → Int
  | 0 => 0
  | k + 1 => xm_rk M k * xm_sp M k + (M 62 (M 80 k) - M 84 k)
theorem xm_sp_84 {M M1 : xa_M} (h : xm_84 M M1) (k : Int) : xm_sp M1 k = xm_sp M k := by
  unfold xm_sp
  rw [h 80 k (by decide), h 62 _ (by decide), h 61 _ (by decide)]
theorem xm_pr_84 {M M1 : xa_M} (h : xm_84 M M1) : ∀ n : Nat, xm_pr M1 n = xm_pr M n := by
  intro n
  induction n with
  | zero => rfl
  | succ n ih =>
    show xm_pr M1 n * xm_sp M1 n = xm_pr M n * xm_sp M n
    rw [ih, xm_sp_84 h]
theorem xm_rkb {M : xa_M} (hF : xm_fit M) : ∀ n : Nat, (n : Int) ≤ M 60 32 → 0 ≤ xm_rk M n ∧ xm_rk M n < xm_pr M n := by
  intro n
  induction n with
  | zero => intro _; exact ⟨Int.le_refl 0, (by decide : (0 : Int) < 1)⟩
  | succ n ih =>
    intro hn
    obtain ⟨a, b⟩ := ih (by omega)
    have f := hF n (by omega) (by omega)
    show 0 ≤ xm_rk M n * xm_sp M n + (M 62 (M 80 n) - M 84 n) ∧ xm_rk M n * xm_sp M n + (M 62 (M 80 n) - M 84 n) < xm_pr M n * xm_sp M n
    have s1 : xm_sp M n = M 62 (M 80 n) - M 61 (M 80 n) + 1 := rfl
    have p1 : 0 ≤ xm_rk M n * xm_sp M n := Int.mul_nonneg a (by omega)
    have p2 : xm_rk M n * xm_sp M n ≤ (xm_pr M n - 1) * xm_sp M n := Int.mul_le_mul_of_nonneg_right (by omega) (by omega)
    rw [Int.sub_mul, Int.one_mul] at p2
    omega
theorem xm_rke {M M1 : xa_M} (h84 : xm_84 M M1) : ∀ n : Nat, (∀ i : Int, 0 ≤ i → i < n → M1 84 i = M 84 i) → xm_rk M1 n = xm_rk M n := by
  intro n
  induction n with
  | zero => intro _; rfl
  | succ n ih =>
    intro h
    show xm_rk M1 n * xm_sp M1 n + (M1 62 (M1 80 n) - M1 84 n) = xm_rk M n * xm_sp M n + (M 62 (M 80 n) - M 84 n)
    rw [ih (fun i h0 h1 => h i h0 (by omega)), h n (by omega) (by omega), xm_sp_84 h84, h84 80 n (by decide), h84 62 _ (by decide)]
theorem xm_rkl {M M1 : xa_M} {k : Nat} (h84 : xm_84 M M1) (hF : xm_fit M) (hF1 : xm_fit M1) (hk : ∀ i : Int, 0 ≤ i → i < k → M1 84 i = M 84 i) (hk1 : M1 84 k = M 84 k + 1) : ∀ n : Nat, k < n → (n : Int) ≤ M 60 32 → xm_rk M1 n < xm_rk M n := by
  intro n
  induction n with
  | zero => intro h; omega
  | succ n ih =>
    intro hn hn2
    have e1 := h84 80 n (by decide)
    have e2 := h84 62 (M 80 n) (by decide)
    have e3 := h84 61 (M 80 n) (by decide)
    show xm_rk M1 n * xm_sp M1 n + (M1 62 (M1 80 n) - M1 84 n) < xm_rk M n * xm_sp M n + (M 62 (M 80 n) - M 84 n)
    rw [xm_sp_84 h84, e1, e2]
    by_cases e : n = k
    · subst e
      rw [xm_rke h84 n hk, hk1]
      omega
    · have a := ih (by omega) (by omega)
      have f := hF n (by omega) (by omega)
      have f1 := hF1 n (by omega) (by rw [h84 60 32 (by decide)]; omega)
      rw [e1, e2, e3] at f1
      have s1 : xm_sp M n = M 62 (M 80 n) - M 61 (M 80 n) + 1 := rfl
      have p2 : xm_rk M1 n * xm_sp M n ≤ (xm_rk M n - 1) * xm_sp M n := Int.mul_le_mul_of_nonneg_right (by omega) (by omega)
      rw [Int.sub_mul, Int.one_mul] at p2
      omega
theorem xm_prs {M : xa_M} {x y : Int} (h : 0 ≤ x) (e : y = xm_pr M x.toNat) : y * (M 62 (M 80 x) - M 61 (M 80 x) + 1) = xm_pr M (x + 1).toNat := by
  have e1 : (x + 1).toNat = x.toNat + 1 := by omega
  have e2 : ((x.toNat : Nat) : Int) = x := Int.toNat_of_nonneg h
  rw [e1]
  show _ = xm_pr M x.toNat * xm_sp M ((x.toNat : Nat) : Int)
  rw [e2, ← e]
  rfl
/-- the wheels of the way are wheels -/
def xm_way (M : xa_M) : Prop := ∀ i, 0 ≤ i → i < M 60 32 → M 80 i < M 60 0
theorem xm_way_sp {M : xa_M} (hM : xa_Mok xm_I M) (hI : xm_Inv M) (hw : xm_way M) (i : Int) (h0 : 0 ≤ i) (h1 : i < M 60 32) : 10 ≤ M 61 (M 80 i) ∧ M 61 (M 80 i) ≤ M 62 (M 80 i) := by
  have := xm_f32 hM
  have := xm_t80 hM i h0 (by omega)
  have := hI.1 (M 80 i) this.1 (hw i h0 h1)
  omega
theorem xm_up84 (M : xa_M) (i v j : Int) : xa_up M 84 i v 84 j = if j = i then v else M 84 j := by
  simp [xa_up]
theorem xm_nxf {M M1 : xa_M} (hF : xm_fit M) (h84 : xm_84 M M1) (h : ∀ i, 0 ≤ i → i < M 60 32 → M1 84 i = M 61 (M 80 i)) : xm_fit M1 := by
  intro i i0 i1
  rw [h84 60 32 (by decide)] at i1
  have := hF i i0 i1
  rw [h84 80 i (by decide), h84 61 _ (by decide), h84 62 _ (by decide), h i i0 i1]
  omega
theorem xm_nxg {M M1 : xa_M} {x v : Int} (hF : xm_fit M) (h84 : xm_84 M M1) (hlo : ∀ i, 0 ≤ i → i ≤ x → M1 84 i = M 84 i) (hhi : ∀ i, x < i → i < M 60 32 → M1 84 i = M 61 (M 80 i)) (hx : 0 ≤ x) (h1 : M 61 (M 80 x) ≤ v) (h2 : v ≤ M 62 (M 80 x)) : xm_fit (xa_up M1 84 x v) := by
  intro i i0 i1
  have hu := xm_84_u (i := x) (v := v) h84
  rw [hu 60 32 (by decide)] at i1
  have hf := hF i i0 i1
  rw [hu 80 i (by decide), hu 61 _ (by decide), hu 62 _ (by decide), xm_up84]
  split
  · rename_i e
    rw [e]
    exact ⟨h1, h2⟩
  · by_cases c : i ≤ x
    · rw [hlo i i0 c]
      exact hf
    · rw [hhi i (by omega) i1]
      omega
theorem xm_nxr {M M1 : xa_M} {x v : Int} (h84 : xm_84 M M1) (hF : xm_fit M) (hF1 : xm_fit (xa_up M1 84 x v)) (hlo : ∀ i, 0 ≤ i → i ≤ x → M1 84 i = M 84 i) (hx : 0 ≤ x ∧ x < M 60 32) (hv : v = M 84 x + 1) : xm_rk (xa_up M1 84 x v) (M 60 32).toNat < xm_rk M (M 60 32).toNat := by
  have ex : ((x.toNat : Nat) : Int) = x := Int.toNat_of_nonneg hx.1
  refine xm_rkl (k := x.toNat) (xm_84_u h84) hF hF1 (fun i i0 i1 => ?_) ?_ (M 60 32).toNat (by omega) (by omega)
  · rw [xm_up84, if_neg (by omega)]
    exact hlo i i0 (by omega)
  · rw [ex, xm_up84, if_pos rfl, hv]
theorem ct_areTooMany {A : Nat → Nat} {h0 : g_H} {d : Nat} {M : xa_M} {post : Option xa_V → xa_M → Prop} (hI : xm_Inv M) (hw : xm_way M) (k : ∀ r : Int, (r = 0 ∨ r = 1) → (r = 0 → xm_pr M (M 60 32).toNat ≤ 200000) → post (some (0, 0, 0, 1, r)) M) : xa_C xm_I A h0 (d + 1) 240 [(2, 60, 0, 0, 0)] M post := by
  refine xa_C_wk ?_
  refine xa_meth (Q0 := (5, 2, false, 0, 0, 12)) (by decide +kernel) ⟨rfl, rfl⟩ (full := s_c_240) rfl rfl ?_
  intro hM hv Q hgo
  have loop0 : ∀ (n : Nat) (x3 x1 : Int), 0 ≤ x3 ∧ x3 ≤ 14 → 1 ≤ x1 ∧ x1 ≤ 200000 → x3 ≤ M 60 32 → x1 = xm_pr M x3.toNat → 14 - x3 < (n : Int) → Q 4 [(3, (0, 0, 0, 14, x3)), (1, (1, 0, 1, 200000, x1)), (0, (2, 60, 0, 0, 0))] [] M := by
    intro n
    induction n with
    | zero => intro x3 x1 b3 b1 h32 hpr hms; omega
    | succ n ih0 =>
      intro x3 x1 b3 b1 h32 hpr hms0
      have b32 := xm_f32 hM
      have t80 : x3 < M 60 32 → 0 ≤ M 80 x3 ∧ M 80 x3 ≤ 13 := fun h => xm_t80 hM x3 (by omega) (by omega)
      have hs := fun h : x3 < M 60 32 => xm_way_sp hM hI hw x3 (by omega) h
      have hp : x3 < M 60 32 → 1 ≤ x1 * (M 62 (M 80 x3) - M 61 (M 80 x3) + 1) := fun h => by
        have := Int.mul_pos (show 0 < x1 by omega) (show 0 < M 62 (M 80 x3) - M 61 (M 80 x3) + 1 by have := hs h; omega)
        omega
      refine hgo.1 34 [4] 4 _ _ _ ?_
      refine And.intro ?_ ?_
      · intro (c1 : (M 60 32) ≤ x3)
        show xa_wk post (some (0, 0, 0, 0, 0)) M
        exact xa_wkI 0 rfl (fun _ _ => by omega) (k 0 (by omega) (fun e => by first | (exfalso; omega) | (rw [show M 60 32 = x3 by omega, ← hpr]; omega)))
      · intro (c1 : x3 < (M 60 32))
        refine And.intro (show 0 ≤ x3 ∧ x3 < 14 by omega) ?_
        refine And.intro ?_ ?_
        · intro (c2 : (x1 * (((M 62 (M 80 x3)) - (M 61 (M 80 x3))) + 1)) ≤ 200000)
          show Q 4 [(3, (0, 0, 1, 15, x3 + 1)), (1, (1, 0, (-79800000), 80200000, x1 * (((M 62 (M 80 x3)) - (M 61 (M 80 x3))) + 1))), (4, (0, 0, 0, 13, M 80 x3)), (0, (2, 60, 0, 0, 0))] [] M
          refine hgo.2.1 4 _ [(3, (0, 0, 0, 14, x3 + 1)), (1, (1, 0, 1, 200000, x1 * (((M 62 (M 80 x3)) - (M 61 (M 80 x3))) + 1))), (0, (2, 60, 0, 0, 0))] _ _ (xa_subI rfl rfl (fun _ _ _ _ => by omega) (xa_subL rfl rfl (fun _ _ _ _ => by omega) (xa_subR rfl xa_sub0))) ?_
          exact ih0 (x3 + 1) (x1 * (((M 62 (M 80 x3)) - (M 61 (M 80 x3))) + 1)) (by omega) (by omega) (by have := xm_f32 hM; omega) (xm_prs (by omega) hpr) (by omega)
        · intro (c2 : 200000 < (x1 * (((M 62 (M 80 x3)) - (M 61 (M 80 x3))) + 1)))
          show xa_wk post (some (0, 0, 1, 1, 1)) M
          exact xa_wkI 1 rfl (fun _ _ => by omega) (k 1 (by omega) (fun e => by first | (exfalso; omega) | (rw [show M 60 32 = x3 by omega, ← hpr]; omega)))
  refine hgo.1 9 [4] 0 _ _ _ ?_
  show Q 4 [(3, (0, 0, 0, 0, 0)), (1, (1, 0, 1, 1, 1)), (0, (2, 60, 0, 0, 0))] [] M
  refine hgo.2.1 4 _ [(3, (0, 0, 0, 14, 0)), (1, (1, 0, 1, 200000, 1)), (0, (2, 60, 0, 0, 0))] _ _ (xa_subI rfl rfl (fun _ _ _ _ => by omega) (xa_subL rfl rfl (fun _ _ _ _ => by omega) (xa_subR rfl xa_sub0))) ?_
  exact loop0 15 0 1 (by omega) (by omega) (by have := xm_f32 hM; omega) rfl (by omega)
theorem ct_firstWay {A : Nat → Nat} {h0 : g_H} {d : Nat} {M : xa_M} {post : Option xa_V → xa_M → Prop} (k : ∀ (M1 : xa_M), xm_84 M M1 → (∀ i, 0 ≤ i → i < M 60 32 → M1 84 i = M 61 (M 80 i)) → post none M1) : xa_C xm_I A h0 (d + 1) 241 [(2, 60, 0, 0, 0)] M post := by
  refine xa_meth (Q0 := (2, 0, false, 0, 0, 12)) (by decide +kernel) ⟨rfl, rfl⟩ (full := s_c_241) rfl rfl ?_
  intro hM hv Q hgo
  have loop0 : ∀ (n : Nat) (x1 : Int) (M1 : xa_M), 0 ≤ x1 ∧ x1 ≤ 14 → xm_cor M M1 → xm_84 M M1 → (∀ i, 0 ≤ i → i < x1 → M1 84 i = M 61 (M 80 i)) → 14 - x1 < (n : Int) → Q 2 [(1, (0, 0, 0, 14, x1)), (0, (2, 60, 0, 0, 0))] [] M1 := by
    intro n
    induction n with
    | zero => intro x1 M1 b1 hc h84 hti hms; omega
    | succ n ih0 =>
      intro x1 M1 b1 hc h84 hti hms0
      have e32 := h84 60 32 (by decide)
      have e80 := h84 80 x1 (by decide)
      have e61 : M1 61 (M1 80 x1) = M 61 (M 80 x1) := by rw [e80]; exact h84 61 _ (by decide)
      have b32 := xm_f32 hM
      have t80 : x1 < M 60 32 → 0 ≤ M 80 x1 ∧ M 80 x1 ≤ 13 := fun h => xm_t80 hM x1 (by omega) (by omega)
      have t61 : x1 < M 60 32 → 0 ≤ M 61 (M 80 x1) ∧ M 61 (M 80 x1) ≤ 400 := fun h => xm_t61 hM _ (t80 h).1 (by have := t80 h; omega)
      refine hgo.1 22 [2] 2 _ _ _ ?_
      refine And.intro ?_ ?_
      · intro (c1 : (M1 60 32) ≤ x1)
        show post none M1
        exact k _ h84 (fun i i0 i1 => hti i i0 (by have := h84 60 32 (by decide); omega))
      · intro (c1 : x1 < (M1 60 32))
        refine And.intro (show 0 ≤ x1 ∧ x1 < 14 by omega) ?_
        refine And.intro (show 0 ≤ x1 ∧ x1 < 14 by omega) ?_
        show Q 2 [(1, (0, 0, 1, 15, x1 + 1)), (0, (2, 60, 0, 0, 0))] [] (xa_up M1 84 x1 (M1 61 (M1 80 x1)))
        refine hgo.2.1 2 _ [(1, (0, 0, 0, 14, x1 + 1)), (0, (2, 60, 0, 0, 0))] _ _ (xa_subI rfl rfl (fun _ _ _ _ => by omega) (xa_subR rfl xa_sub0)) ?_
        exact ih0 (x1 + 1) (xa_up M1 84 x1 (M1 61 (M1 80 x1))) (by omega) (xm_cor_a rfl hc) (xm_84_u h84) (fun i i0 i1 => by rw [xm_up84]; by_cases e : i = x1; (rw [if_pos e, e, e61]); (rw [if_neg e]; exact hti i i0 (by omega))) (by omega)
  refine hgo.1 7 [2] 0 _ _ _ ?_
  show Q 2 [(1, (0, 0, 0, 0, 0)), (0, (2, 60, 0, 0, 0))] [] M
  refine hgo.2.1 2 _ [(1, (0, 0, 0, 14, 0)), (0, (2, 60, 0, 0, 0))] _ _ (xa_subI rfl rfl (fun _ _ _ _ => by omega) (xa_subR rfl xa_sub0)) ?_
  exact loop0 15 0 M (by omega) xm_cor_r xm_84_r (fun i i0 i1 => by omega) (by omega)
theorem ct_nextWay {A : Nat → Nat} {h0 : g_H} {d : Nat} {M : xa_M} {post : Option xa_V → xa_M → Prop} (hF : xm_fit M) (k : ∀ (r : Int) (M1 : xa_M), (r = 0 ∨ r = 1) → xm_84 M M1 → xm_fit M1 → (r = 1 → xm_rk M1 (M 60 32).toNat < xm_rk M (M 60 32).toNat) → post (some (0, 0, 0, 1, r)) M1) : xa_C xm_I A h0 (d + 1) 243 [(2, 60, 0, 0, 0)] M post := by
  refine xa_C_wk ?_
  refine xa_meth (Q0 := (2, 2, false, 0, 0, 12)) (by decide +kernel) ⟨rfl, rfl⟩ (full := s_c_243) rfl rfl ?_
  intro hM hv Q hgo
  have b32 := xm_f32 hM
  have loop0 : ∀ (n : Nat) (x1 : Int) (M1 : xa_M), (-1) ≤ x1 ∧ x1 ≤ 13 → xm_cor M M1 → xm_84 M M1 → x1 < M 60 32 → (∀ i, 0 ≤ i → i ≤ x1 → M1 84 i = M 84 i) → (∀ i, x1 < i → i < M 60 32 → M1 84 i = M 61 (M 80 i)) → x1 + 1 < (n : Int) → Q 7 [(1, (0, 0, (-1), 13, x1)), (0, (2, 60, 0, 0, 0))] [] M1 := by
    intro n
    induction n with
    | zero => intro x1 M1 b1 hc h84 hw hlo hhi hms; omega
    | succ n ih0 =>
      intro x1 M1 b1 hc h84 hw hlo hhi hms0
      refine hgo.2.2 _ _ _ _ (fun hM1 _ => ?_)
      have e32 := h84 60 32 (by decide)
      have e80 := h84 80 x1 (by decide)
      have e61 : M1 61 (M1 80 x1) = M 61 (M 80 x1) := by rw [e80]; exact h84 61 _ (by decide)
      have e62 : M1 62 (M1 80 x1) = M 62 (M 80 x1) := by rw [e80]; exact h84 62 _ (by decide)
      have t80 : 0 ≤ x1 → 0 ≤ M 80 x1 ∧ M 80 x1 ≤ 13 := fun h => xm_t80 hM x1 (by omega) (by omega)
      have t61 : 0 ≤ x1 → 0 ≤ M 61 (M 80 x1) ∧ M 61 (M 80 x1) ≤ 400 := fun h => xm_t61 hM _ (t80 h).1 (by have := t80 h; omega)
      have t62 : 0 ≤ x1 → 0 ≤ M 62 (M 80 x1) ∧ M 62 (M 80 x1) ≤ 400 := fun h => xm_t62 hM _ (t80 h).1 (by have := t80 h; omega)
      have f1 : 0 ≤ x1 → M 61 (M 80 x1) ≤ M 84 x1 ∧ M 84 x1 ≤ M 62 (M 80 x1) := fun h => hF x1 h (by omega)
      have q1 : 0 ≤ x1 → M1 84 x1 = M 84 x1 := fun h => hlo x1 h (by omega)
      refine hgo.1 32 [7] 7 _ _ _ ?_
      refine And.intro ?_ ?_
      · intro (c1 : x1 < 0)
        refine And.intro ?_ ?_
        · intro (c2 : 0 ≤ x1)
          refine And.intro (show 0 ≤ x1 ∧ x1 < 14 by omega) ?_
          refine And.intro (show 0 ≤ x1 ∧ x1 < 14 by omega) ?_
          refine And.intro (show 0 ≤ ((M1 84 x1) + 1) ∧ ((M1 84 x1) + 1) ≤ 400 by omega) ?_
          show xa_wk post (some (0, 0, 1, 1, 1)) (xa_up M1 84 x1 ((M1 84 x1) + 1))
          exact xa_wkI 1 rfl (fun _ _ => by omega) (k 1 _ (Or.inr rfl) (xm_84_u h84) (xm_nxg hF h84 hlo hhi (by omega) (by omega) (by omega)) (fun _ => xm_nxr h84 hF (xm_nxg hF h84 hlo hhi (by omega) (by omega) (by omega)) hlo (by omega) (by omega)))
        · intro (c2 : x1 < 0)
          show xa_wk post (some (0, 0, 0, 0, 0)) M1
          exact xa_wkI 0 rfl (fun _ _ => by omega) (k 0 M1 (Or.inl rfl) h84 (xm_nxf hF h84 (fun i i0 i1 => hhi i (by omega) (by omega))) (fun e => absurd e (by decide)))
      · intro (c1 : 0 ≤ x1)
        refine And.intro (show 0 ≤ x1 ∧ x1 < 14 by omega) ?_
        refine And.intro (show 0 ≤ x1 ∧ x1 < 14 by omega) ?_
        refine And.intro ?_ ?_
        · intro (c3 : ¬ (M1 84 x1) = (M1 62 (M1 80 x1)))
          refine And.intro ?_ ?_
          · intro (c4 : 0 ≤ x1)
            refine And.intro (show 0 ≤ x1 ∧ x1 < 14 by omega) ?_
            refine And.intro (show 0 ≤ x1 ∧ x1 < 14 by omega) ?_
            refine And.intro (show 0 ≤ ((M1 84 x1) + 1) ∧ ((M1 84 x1) + 1) ≤ 400 by omega) ?_
            show xa_wk post (some (0, 0, 1, 1, 1)) (xa_up M1 84 x1 ((M1 84 x1) + 1))
            exact xa_wkI 1 rfl (fun _ _ => by omega) (k 1 _ (Or.inr rfl) (xm_84_u h84) (xm_nxg hF h84 hlo hhi (by omega) (by omega) (by omega)) (fun _ => xm_nxr h84 hF (xm_nxg hF h84 hlo hhi (by omega) (by omega) (by omega)) hlo (by omega) (by omega)))
          · intro (c4 : x1 < 0)
            show xa_wk post (some (0, 0, 0, 0, 0)) M1
            exact xa_wkI 0 rfl (fun _ _ => by omega) (k 0 M1 (Or.inl rfl) h84 (xm_nxf hF h84 (fun i i0 i1 => hhi i (by omega) (by omega))) (fun e => absurd e (by decide)))
        · intro (c3 : (M1 84 x1) = (M1 62 (M1 80 x1)))
          refine And.intro (show 0 ≤ x1 ∧ x1 < 14 by omega) ?_
          refine And.intro (show 0 ≤ x1 ∧ x1 < 14 by omega) ?_
          show Q 7 [(1, (0, 0, (-2), 12, x1 + (-1))), (0, (2, 60, 0, 0, 0))] [] (xa_up M1 84 x1 (M1 61 (M1 80 x1)))
          refine hgo.2.1 7 _ [(1, (0, 0, (-1), 13, x1 + (-1))), (0, (2, 60, 0, 0, 0))] _ _ (xa_subI rfl rfl (fun _ _ _ _ => by omega) (xa_subR rfl xa_sub0)) ?_
          exact ih0 (x1 + (-1)) (xa_up M1 84 x1 (M1 61 (M1 80 x1))) (by omega) (xm_cor_a rfl hc) (xm_84_u h84) (by omega) (fun i i0 i1 => by rw [xm_up84, if_neg (by omega)]; exact hlo i i0 (by omega)) (fun i i0 i1 => by rw [xm_up84]; by_cases e : i = x1; (rw [if_pos e, e, e61]); (rw [if_neg e]; exact hhi i (by omega) i1)) (by omega)
  refine hgo.1 10 [7] 0 _ _ _ ?_
  show Q 7 [(1, (0, 0, (-1), 13, (M 60 32) - 1)), (0, (2, 60, 0, 0, 0))] [] M
  refine hgo.2.1 7 _ [(1, (0, 0, (-1), 13, (M 60 32) - 1)), (0, (2, 60, 0, 0, 0))] _ _ (xa_subI rfl rfl (fun _ _ _ _ => by omega) (xa_subR rfl xa_sub0)) ?_
  exact loop0 15 ((M 60 32) - 1) M (by omega) xm_cor_r xm_84_r (by omega) (fun i i0 i1 => rfl) (fun i i0 i1 => by omega) (by omega)
end
section
-- findWay of the model (made by wip/p24/xa/xm16.py)
set_option maxRecDepth 20000
/-- the axle of the one and of the other end of a mesh -/
abbrev xw_A (M : xa_M) (i : Int) : Int := M 64 (M 66 i)
abbrev xw_B (M : xa_M) (i : Int) : Int := M 64 (M 67 i)
/-- far, after so many rounds and meshes -/
def xw_I (M : xa_M) (X : Int) (M1 : xa_M) (r m : Int) : Prop := (∀ i, 0 ≤ i → i < M 60 6 → ((M1 78 (xw_B M i) < r ∨ (i < m ∧ M1 78 (xw_B M i) ≤ r)) → M1 78 (xw_A M i) ≤ M1 78 (xw_B M i) + 1) ∧ ((M1 78 (xw_A M i) < r ∨ (i < m ∧ M1 78 (xw_A M i) ≤ r)) → M1 78 (xw_B M i) ≤ M1 78 (xw_A M i) + 1)) ∧
  M1 78 X = 0 ∧ ∀ a, 0 ≤ a → a < 10 → a ≠ X → 1 ≤ M1 78 a ∧ (M1 78 a < 99 → ∃ i, (0 ≤ i ∧ i < M 60 6) ∧ ((xw_A M i = a ∧ M1 78 (xw_B M i) < M1 78 a) ∨ (xw_B M i = a ∧ M1 78 (xw_A M i) < M1 78 a)))
theorem xw_up (M : xa_M) (q : Nat) (i v j : Int) : xa_up M q i v q j = if j = i then v else M q j := by
  simp [xa_up]
theorem xw_st {M M1 : xa_M} {X i r m x y v : Int} (hi : 0 ≤ i ∧ i < M 60 6) (hxy : (xw_A M i = x ∧ xw_B M i = y) ∨ (xw_B M i = x ∧ xw_A M i = y)) (hv : v ≤ M1 78 x ∧ v ≤ M1 78 y + 1 ∧ (v = M1 78 x ∨ v = M1 78 y + 1)) (hy : 0 ≤ M1 78 y) (h : xw_I M X M1 r m) : xw_I M X (xa_up M1 78 x v) r m := by
  obtain ⟨hP, hX, hV⟩ := h
  by_cases ev : v = M1 78 x
  · have e : ∀ j, xa_up M1 78 x v 78 j = M1 78 j := by
      intro j
      rw [xw_up]
      split
      · rename_i e
        rw [e, ev]
      · rfl
    unfold xw_I
    simp only [e]
    exact ⟨hP, hX, hV⟩
  · have ev2 : v = M1 78 y + 1 := by omega
    have hr : r ≤ M1 78 y := by
      by_cases c : M1 78 y < r
      · have := hP i hi.1 hi.2
        rcases hxy with ⟨e1, e2⟩ | ⟨e1, e2⟩
        · rw [e1, e2] at this
          have := this.1 (Or.inl c)
          omega
        · rw [e1, e2] at this
          have := this.2 (Or.inl c)
          omega
      · omega
    have le : ∀ j, xa_up M1 78 x v 78 j ≤ M1 78 j := by
      intro j
      rw [xw_up]
      split
      · rename_i e
        rw [e]
        exact hv.1
      · exact Int.le_refl _
    have ne : ∀ j, j ≠ x → xa_up M1 78 x v 78 j = M1 78 j := fun j hj => by rw [xw_up, if_neg hj]
    have eq : xa_up M1 78 x v 78 x = v := by rw [xw_up, if_pos rfl]
    have hxy2 : y ≠ x := by
      intro e
      rw [e] at ev2 hv
      omega
    refine ⟨fun i2 j0 j1 => ?_, ?_, fun a a0 a1 ha => ?_⟩
    · obtain ⟨p1, p2⟩ := hP i2 j0 j1
      refine ⟨fun c => ?_, fun c => ?_⟩
      · by_cases e : xw_B M i2 = x
        · rw [e, eq] at c
          omega
        · rw [ne _ e] at c ⊢
          have := p1 c
          have := le (xw_A M i2)
          omega
      · by_cases e : xw_A M i2 = x
        · rw [e, eq] at c
          omega
        · rw [ne _ e] at c ⊢
          have := p2 c
          have := le (xw_B M i2)
          omega
    · by_cases e : X = x
      · rw [e] at hX
        omega
      · rw [ne _ e]
        exact hX
    · obtain ⟨v1, v2⟩ := hV a a0 a1 ha
      by_cases e : a = x
      · rw [e, eq]
        refine ⟨by omega, fun _ => ⟨i, hi, ?_⟩⟩
        rcases hxy with ⟨e1, e2⟩ | ⟨e1, e2⟩
        · exact Or.inl ⟨e1, by rw [e2, ne _ hxy2]; omega⟩
        · exact Or.inr ⟨e1, by rw [e2, ne _ hxy2]; omega⟩
      · rw [ne _ e]
        refine ⟨v1, fun c => ?_⟩
        obtain ⟨i2, j, hj⟩ := v2 c
        refine ⟨i2, j, ?_⟩
        rcases hj with ⟨e1, e2⟩ | ⟨e1, e2⟩
        · have := le (xw_B M i2)
          exact Or.inl ⟨e1, by omega⟩
        · have := le (xw_A M i2)
          exact Or.inr ⟨e1, by omega⟩
theorem xw_nx {M M1 : xa_M} {X r m : Int} (h : xw_I M X M1 r m) (h1 : M1 78 (xw_A M m) ≤ M1 78 (xw_B M m) + 1) (h2 : M1 78 (xw_B M m) ≤ M1 78 (xw_A M m) + 1) : xw_I M X M1 r (m + 1) := by
  refine ⟨fun i i0 i1 => ?_, h.2⟩
  obtain ⟨p1, p2⟩ := h.1 i i0 i1
  by_cases e : i = m
  · rw [e]
    exact ⟨fun _ => h1, fun _ => h2⟩
  · exact ⟨fun c => p1 (by omega), fun c => p2 (by omega)⟩
theorem xw_two {M M1 : xa_M} {X r m a b u v : Int} (h : xw_I M X M1 r m) (hi : 0 ≤ m ∧ m < M 60 6) (ea : xw_A M m = a) (eb : xw_B M m = b) (ha : 0 ≤ M1 78 a) (hb : 0 ≤ M1 78 b) (h1 : u ≤ M1 78 a ∧ u ≤ M1 78 b + 1 ∧ (u = M1 78 a ∨ u = M1 78 b + 1)) (h2 : v ≤ xa_up M1 78 a u 78 b ∧ v ≤ u + 1 ∧ (v = xa_up M1 78 a u 78 b ∨ v = u + 1)) : xw_I M X (xa_up (xa_up M1 78 a u) 78 b v) r (m + 1) := by
  have s1 := xw_st (M := M) (v := u) hi (Or.inl ⟨ea, eb⟩) h1 hb h
  have ua : xa_up M1 78 a u 78 a = u := by rw [xw_up, if_pos rfl]
  have s2 := xw_st (M := M) (v := v) hi (Or.inr ⟨eb, ea⟩) (by rw [ua]; exact h2) (by rw [ua]; omega) s1
  have vb : xa_up (xa_up M1 78 a u) 78 b v 78 b = v := by rw [xw_up, if_pos rfl]
  by_cases e : a = b
  · refine xw_nx s2 ?_ ?_
    · rw [ea, eb, e]
      omega
    · rw [ea, eb, e]
      omega
  · have va : xa_up (xa_up M1 78 a u) 78 b v 78 a = u := by rw [xw_up, if_neg e, ua]
    have ub : xa_up M1 78 a u 78 b = M1 78 b := by rw [xw_up, if_neg (fun h => e h.symm)]
    rw [ub] at h2
    refine xw_nx s2 ?_ ?_
    · rw [ea, eb, va, vb]
      omega
    · rw [ea, eb, va, vb]
      omega
theorem xw_rd {M M1 : xa_M} {X r m : Int} (h : xw_I M X M1 r m) (hm : M 60 6 ≤ m) : xw_I M X M1 (r + 1) 0 := by
  refine ⟨fun i i0 i1 => ?_, h.2⟩
  obtain ⟨p1, p2⟩ := h.1 i i0 i1
  exact ⟨fun c => p1 (by omega), fun c => p2 (by omega)⟩
/-- how many of the first n are at most v -/
def xw_C (f : Int → Int) (v : Int) : Nat → Int
  | 0 => 0
  | n + 1 => xw_C f v n + (if f n ≤ v then 1 else 0)
theorem xw_C_le {f : Int → Int} {v : Int} : ∀ n : Nat, xw_C f v n ≤ n := by
  intro n
  induction n with
  | zero => exact Int.le_refl 0
  | succ n ih =>
    show xw_C f v n + (if f n ≤ v then 1 else 0) ≤ ((n + 1 : Nat) : Int)
    split <;> omega
theorem xw_C_mn {f : Int → Int} {v : Int} : ∀ n : Nat, xw_C f v n ≤ xw_C f (v + 1) n := by
  intro n
  induction n with
  | zero => exact Int.le_refl 0
  | succ n ih =>
    show xw_C f v n + (if f n ≤ v then 1 else 0) ≤ xw_C f (v + 1) n + (if f n ≤ v + 1 then 1 else 0)
    split <;> split <;> omega
theorem xw_C_lt {f : Int → Int} {v : Int} {k : Int} (k0 : 0 ≤ k) (hk : f k = v + 1) : ∀ n : Nat, k < n → xw_C f v n + 1 ≤ xw_C f (v + 1) n := by
  intro n
  induction n with
  | zero => intro h; omega
  | succ n ih =>
    intro hn
    show xw_C f v n + (if f n ≤ v then 1 else 0) + 1 ≤ xw_C f (v + 1) n + (if f n ≤ v + 1 then 1 else 0)
    by_cases e : k = n
    · rw [e] at hk
      have := xw_C_mn (f := f) (v := v) n
      rw [if_neg (by omega), if_pos (by omega)]
      omega
    · have := ih (by omega)
      split <;> split <;> omega
theorem xw_C_big {f : Int → Int} : ∀ v : Nat, (∀ u : Int, 0 ≤ u → u ≤ v → ∃ a, 0 ≤ a ∧ a < 10 ∧ f a = u) → (v : Int) + 1 ≤ xw_C f v 10 := by
  have h0 : ∀ n : Nat, 0 ≤ xw_C f (-1) n := by
    intro n
    induction n with
    | zero => exact Int.le_refl 0
    | succ n ih =>
      show 0 ≤ xw_C f (-1) n + (if f n ≤ -1 then 1 else 0)
      split <;> omega
  intro v
  induction v with
  | zero =>
    intro h
    obtain ⟨a, a0, a1, e⟩ := h 0 (by omega) (by omega)
    have := xw_C_lt (f := f) (v := -1) a0 (by omega) 10 (by omega)
    have := h0 10
    exact (by omega : (0 : Int) + 1 ≤ xw_C f (-1 + 1) 10)
  | succ v ih =>
    intro h
    have i := ih (fun u u0 u1 => h u u0 (by omega))
    obtain ⟨a, a0, a1, e⟩ := h ((v : Int) + 1) (by omega) (by omega)
    have := xw_C_lt (f := f) (v := v) a0 e 10 (by omega)
    exact (by omega : ((v + 1 : Nat) : Int) + 1 ≤ xw_C f ((v : Int) + 1) 10)
/-- what the walk needs -/
def xw_G (M : xa_M) (X : Int) (M1 : xa_M) : Prop := M1 78 X = 0 ∧ (∀ a, 0 ≤ a → a < 10 → a ≠ X → 1 ≤ M1 78 a) ∧ ∀ a, 0 ≤ a → a < 10 → M1 78 a < 99 → M1 78 a ≤ 10 ∧ (a ≠ X → ∃ i, (0 ≤ i ∧ i < M 60 6) ∧ ((xw_A M i = a ∧ M1 78 (xw_B M i) = M1 78 a - 1) ∨ (xw_B M i = a ∧ M1 78 (xw_A M i) = M1 78 a - 1)))
theorem xw_G_u {M M1 : xa_M} {X j v : Int} {q : Nat} (hq : q ≠ 78) (h : xw_G M X M1) : xw_G M X (xa_up M1 q j v) := by
  have e : ∀ i, xa_up M1 q j v 78 i = M1 78 i := by
    intro i
    simp [xa_up, hq.symm]
  unfold xw_G
  simp only [e]
  exact h
theorem xw_G_j {M M1 M2 : xa_M} {X : Int} (e : ∀ j, M2 78 j = M1 78 j) (h : xw_G M X M1) : xw_G M X M2 := by
  unfold xw_G
  simp only [e]
  exact h
theorem xw_fin {M M1 : xa_M} {X : Int} (hX : 0 ≤ X ∧ X < 10) (hAB : ∀ i, 0 ≤ i → i < M 60 6 → (0 ≤ xw_A M i ∧ xw_A M i < 10) ∧ (0 ≤ xw_B M i ∧ xw_B M i < 10)) (h : xw_I M X M1 10 0) : xw_G M X M1 := by
  obtain ⟨hP, h0, hV⟩ := h
  -- a neighbour that is nearer
  have nb : ∀ a, 0 ≤ a → a < 10 → a ≠ X → M1 78 a < 99 → ∃ b, (0 ≤ b ∧ b < 10) ∧ M1 78 b < M1 78 a ∧ (M1 78 b < 10 → M1 78 a = M1 78 b + 1) ∧ ∃ i, (0 ≤ i ∧ i < M 60 6) ∧ ((xw_A M i = a ∧ xw_B M i = b) ∨ (xw_B M i = a ∧ xw_A M i = b)) := by
    intro a a0 a1 ha hl
    obtain ⟨i, hi, hj⟩ := (hV a a0 a1 ha).2 hl
    have ab := hAB i hi.1 hi.2
    obtain ⟨p1, p2⟩ := hP i hi.1 hi.2
    rcases hj with ⟨e1, e2⟩ | ⟨e1, e2⟩
    · refine ⟨xw_B M i, ab.2, e2, fun c => ?_, i, hi, Or.inl ⟨e1, rfl⟩⟩
      have := p1 (Or.inl c)
      rw [e1] at this
      omega
    · refine ⟨xw_A M i, ab.1, e2, fun c => ?_, i, hi, Or.inr ⟨e1, rfl⟩⟩
      have := p2 (Or.inl c)
      rw [e1] at this
      omega
  have z : ∀ a, 0 ≤ a → a < 10 → M1 78 a ≠ 0 → a ≠ X := by
    intro a _ _ h e
    rw [e] at h
    exact h h0
  -- the numbers below one that is met are met
  have down : ∀ v : Nat, v ≤ 10 → (∃ a, 0 ≤ a ∧ a < 10 ∧ M1 78 a = v) → ∀ u : Int, 0 ≤ u → u ≤ v → ∃ a, 0 ≤ a ∧ a < 10 ∧ M1 78 a = u := by
    intro v
    induction v with
    | zero =>
      intro _ ⟨a, a0, a1, e⟩ u u0 u1
      exact ⟨a, a0, a1, by omega⟩
    | succ v ih =>
      intro hv ⟨a, a0, a1, e⟩ u u0 u1
      by_cases eu : u = ((v + 1 : Nat) : Int)
      · exact ⟨a, a0, a1, by omega⟩
      · obtain ⟨b, hb, hlt, hb2, _⟩ := nb a a0 a1 (z a a0 a1 (by omega)) (by omega)
        exact ih (by omega) ⟨b, hb.1, hb.2, by have := hb2 (by omega); omega⟩ u u0 (by omega)
  have no : ∀ n : Nat, ∀ a, 0 ≤ a → a < 10 → M1 78 a < 99 → M1 78 a < n → ¬ 11 ≤ M1 78 a := by
    intro n
    induction n with
    | zero => intro a _ _ _ h h2; omega
    | succ n ih =>
      intro a a0 a1 hl hn h11
      obtain ⟨b, hb, hlt, hb2, _⟩ := nb a a0 a1 (z a a0 a1 (by omega)) hl
      by_cases c : M1 78 b < 10
      · have := hb2 c
        omega
      · by_cases c2 : 11 ≤ M1 78 b
        · exact ih b hb.1 hb.2 (by omega) (by omega) c2
        · have big := xw_C_big (f := M1 78) 10 (down 10 (by omega) ⟨b, hb.1, hb.2, by omega⟩)
          have := xw_C_le (f := M1 78) (v := ((10 : Nat) : Int)) 10
          omega
  refine ⟨h0, fun a a0 a1 ha => (hV a a0 a1 ha).1, fun a a0 a1 hl => ?_⟩
  have h10 : M1 78 a ≤ 10 := by
    have := no 99 a a0 a1 hl (by omega)
    omega
  refine ⟨h10, fun ha => ?_⟩
  obtain ⟨b, hb, hlt, hb2, i, hi, hj⟩ := nb a a0 a1 ha hl
  have e := hb2 (by omega)
  refine ⟨i, hi, ?_⟩
  rcases hj with ⟨e1, e2⟩ | ⟨e1, e2⟩
  · exact Or.inl ⟨e1, by rw [e2]; omega⟩
  · exact Or.inr ⟨e1, by rw [e2]; omega⟩
/-- a mesh from i on that leads nearer -/
def xw_E (M : xa_M) (x : Int) (M1 : xa_M) (i : Int) : Prop := ∃ m, (i ≤ m ∧ m < M 60 6) ∧ ((xw_A M m = x ∧ M1 78 (xw_B M m) = M1 78 x - 1) ∨ (xw_B M m = x ∧ M1 78 (xw_A M m) = M1 78 x - 1))
theorem xw_E_n {M M1 : xa_M} {x i : Int} (h : xw_E M x M1 i) (hn : ¬ ((xw_A M i = x ∧ M1 78 (xw_B M i) = M1 78 x - 1) ∨ (xw_B M i = x ∧ M1 78 (xw_A M i) = M1 78 x - 1))) : xw_E M x M1 (i + 1) := by
  obtain ⟨m, hm, h⟩ := h
  have : i ≠ m := by
    intro e
    rw [e] at hn
    exact hn h
  exact ⟨m, by omega, h⟩
theorem xw_E_i {M M1 : xa_M} {x i : Int} (h : xw_E M x M1 i) : i < M 60 6 := by
  obtain ⟨m, hm, h⟩ := h
  omega
theorem xw_ini {M M1 : xa_M} {X n : Int} (hM1 : xa_Mok xm_I M1) (hX : 0 ≤ X ∧ X ≤ 9) (hAB : ∀ i, 0 ≤ i → i < M 60 6 → (0 ≤ xw_A M i ∧ xw_A M i < 10) ∧ (0 ≤ xw_B M i ∧ xw_B M i < 10)) (hn : 10 ≤ n) (h : ∀ i, 0 ≤ i → i < n → M1 78 i = if i = X then 0 else 99) : xw_I M X M1 0 0 := by
  refine ⟨fun i i0 i1 => ?_, ?_, fun a a0 a1 ha => ?_⟩
  · obtain ⟨p, q⟩ := hAB i i0 i1
    have := xm_t78 hM1 (xw_A M i) p.1 p.2
    have := xm_t78 hM1 (xw_B M i) q.1 q.2
    exact ⟨fun c => by omega, fun c => by omega⟩
  · rw [h X hX.1 (by omega), if_pos rfl]
  · rw [h a a0 (by omega), if_neg ha]
    exact ⟨by omega, fun c => by omega⟩
end
