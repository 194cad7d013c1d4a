-- slot of the model (made by wip/p24/xa/xm14.py)
set_option maxRecDepth 20000
theorem ms_slot {A : Nat → Nat} {h0 : g_H} {d : Nat} {M : xa_M} {post : Option xa_V → xa_M → Prop} {l1 u1 l2 u2 l3 u3 l4 u4 : Int} {a b c e : Int} (hI : xm_Inv M) (k : ∀ (o : Option xa_V) (M1 : xa_M), xm_cor M M1 → post o M1) : xa_C xm_I A h0 (d + 4) 270 [(2, 60, 0, 0, 0), (0, 0, l1, u1, a), (0, 0, l2, u2, b), (0, 0, l3, u3, c), (0, 0, l4, u4, e)] M post := by
  refine xa_C_arg [(2, 60, 0, 0, 0), (0, 0, (-2147483648), 2147483647, a), (0, 0, (-2147483648), 2147483647, b), (0, 0, (-2147483648), 2147483647, c), (0, 0, (-2147483648), 2147483647, e)] (xa_svR (xa_svI (fun _ _ _ _ => by omega) (xa_svI (fun _ _ _ _ => by omega) (xa_svI (fun _ _ _ _ => by omega) (xa_svI (fun _ _ _ _ => by omega) xa_sv0))))) ?_
  refine xa_meth (Q0 := (9, 1, false, 0, 0, 12)) (by decide +kernel) ⟨rfl, rfl⟩ (full := s_c_270) rfl rfl ?_
  intro hM hv Q hgo
  have und : 0 ≤ a → a < b → b ≤ 100 → 1 ≤ e → e ≤ 20 → -e ≤ c → c ≤ e → 1 ≤ b * b * e - 2 * a * b * c + a * a * e := by
    intro h1 h2 h3 h4 h5 h6 h7
    have hab : 0 ≤ a * b := Int.mul_nonneg h1 (by omega)
    have k1 : a * b * c ≤ a * b * e := Int.mul_le_mul_of_nonneg_left h7 hab
    have k2 : 1 ≤ (b - a) * (b - a) := (xm_mulp (p := b - a) (q := b - a) (a := 100) (b := 100) (by omega) (by omega) (by omega) (by omega)).1
    have k3 : 1 ≤ (b - a) * (b - a) * e := by
      have := Int.mul_pos (show 0 < (b - a) * (b - a) by omega) (show 0 < e by omega)
      omega
    have k4 : (b - a) * (b - a) * e = b * b * e - 2 * (a * b * e) + a * a * e := by
      simp only [Int.sub_mul, Int.mul_sub, Int.mul_comm b a]
      omega
    have k5 : 2 * a * b * c = 2 * (a * b * c) := by
      rw [Int.mul_assoc 2 a b, Int.mul_assoc 2 (a * b) c]
    omega
  refine hgo.1 25 [37] 0 _ _ _ ?_
  show xa_C xm_I A h0 _ 214 [(0, 0, (-2147483648), 2147483647, a), (0, 0, 0, 0, 0), (0, 0, 99, 99, 99)] (xa_up M 60 21 0) _
  refine ct_in ?_ ?_
  · intro (i1 : 0 ≤ a ∧ a ≤ 99)
    refine And.intro ?_ ?_
    · intro (c2 : b ≤ a)
      show post (some (0, 0, (-1), (-1), (-1))) (xa_up M 60 21 0)
      exact k _ _ (xm_cor_f (by omega) xm_cor_r)
    · intro (c2 : a < b)
      refine And.intro ?_ ?_
      · intro (c3 : 100 < b)
        show post (some (0, 0, (-1), (-1), (-1))) (xa_up M 60 21 0)
        exact k _ _ (xm_cor_f (by omega) xm_cor_r)
      · intro (c3 : b ≤ 100)
        show xa_C xm_I A h0 _ 214 [(0, 0, (-2147483648), 2147483647, e), (0, 0, 1, 1, 1), (0, 0, 20, 20, 20)] (xa_up M 60 21 0) _
        refine ct_in ?_ ?_
        · intro (i4 : 1 ≤ e ∧ e ≤ 20)
          show Q 37 [(0, (2, 60, 0, 0, 0)), (1, (0, 0, (-2147483648), 2147483647, a)), (2, (0, 0, (-2147483648), 2147483647, b)), (3, (0, 0, (-2147483648), 2147483647, c)), (4, (0, 0, (-2147483648), 2147483647, e))] [] (xa_up M 60 21 0)
          refine hgo.2.1 37 _ [(0, (2, 60, 0, 0, 0)), (1, (0, 0, (-2147483648), 2147483647, a)), (2, (0, 0, (-2147483648), 2147483647, b)), (3, (0, 0, (-2147483648), 2147483647, c)), (4, (0, 0, 1, 20, e))] _ _ (xa_subR rfl (xa_subI rfl rfl (fun _ _ _ _ => by omega) (xa_subI rfl rfl (fun _ _ _ _ => by omega) (xa_subI rfl rfl (fun _ _ _ _ => by omega) (xa_subI rfl rfl (fun _ _ _ _ => by omega) xa_sub0))))) ?_
          refine hgo.1 12 [51] 37 _ _ _ ?_
          show xa_C xm_I A h0 _ 214 [(0, 0, (-2147483648), 2147483647, c), (0, 0, (-20), (-1), -e), (0, 0, 1, 20, e)] (xa_up M 60 21 0) _
          refine ct_in ?_ ?_
          · intro (i105 : (-e) ≤ c ∧ c ≤ e)
            show Q 51 [(0, (2, 60, 0, 0, 0)), (1, (0, 0, (-2147483648), 2147483647, a)), (2, (0, 0, (-2147483648), 2147483647, b)), (3, (0, 0, (-2147483648), 2147483647, c)), (4, (0, 0, 1, 20, e))] [] (xa_up M 60 21 0)
            refine hgo.2.1 51 _ [(0, (2, 60, 0, 0, 0)), (1, (0, 0, 0, 99, a)), (2, (0, 0, 1, 100, b)), (3, (0, 0, (-20), 20, c)), (4, (0, 0, 1, 20, e))] _ _ (xa_subR rfl (xa_subI rfl rfl (fun _ _ _ _ => by omega) (xa_subI rfl rfl (fun _ _ _ _ => by omega) (xa_subI rfl rfl (fun _ _ _ _ => by omega) (xa_subI rfl rfl (fun _ _ _ _ => by omega) xa_sub0))))) ?_
            have und1 := und (by omega) (by omega) (by omega) (by omega) (by omega) (by omega) (by omega)
            refine hgo.1 10 [56, 60, 65, 68, 69, 76, 80, 86, 89, 92, 93, 98, 102, 103] 51 _ _ _ ?_
            show Q 56 [(0, (2, 60, 0, 0, 0)), (1, (0, 0, 0, 99, a)), (2, (0, 0, 1, 100, b)), (3, (0, 0, (-20), 20, c)), (4, (0, 0, 1, 20, e))] [(1, 0, 1, 10000, b * b)] (xa_up M 60 21 0)
            refine hgo.1 8 [56, 60, 65, 68, 69, 76, 80, 86, 89, 92, 93, 98, 102, 103] 56 _ _ _ ?_
            show Q 60 [(0, (2, 60, 0, 0, 0)), (1, (0, 0, 0, 99, a)), (2, (0, 0, 1, 100, b)), (3, (0, 0, (-20), 20, c)), (4, (0, 0, 1, 20, e))] [(1, 0, 1, 200000, (b * b) * e)] (xa_up M 60 21 0)
            refine hgo.1 10 [56, 60, 65, 68, 69, 76, 80, 86, 89, 92, 93, 98, 102, 103] 60 _ _ _ ?_
            show Q 65 [(0, (2, 60, 0, 0, 0)), (1, (0, 0, 0, 99, a)), (2, (0, 0, 1, 100, b)), (3, (0, 0, (-20), 20, c)), (4, (0, 0, 1, 20, e))] [(1, 0, 0, 9900, a * b), (1, 0, 1, 200000, (b * b) * e)] (xa_up M 60 21 0)
            refine hgo.1 8 [56, 60, 65, 68, 69, 76, 80, 86, 89, 92, 93, 98, 102, 103] 65 _ _ _ ?_
            show Q 68 [(0, (2, 60, 0, 0, 0)), (1, (0, 0, 0, 99, a)), (2, (0, 0, 1, 100, b)), (3, (0, 0, (-20), 20, c)), (4, (0, 0, 1, 20, e))] [(1, 0, (-198000), 198000, (a * b) * c), (1, 0, 1, 200000, (b * b) * e)] (xa_up M 60 21 0)
            refine hgo.1 6 [56, 60, 65, 68, 69, 76, 80, 86, 89, 92, 93, 98, 102, 103] 68 _ _ _ ?_
            show Q 69 [(0, (2, 60, 0, 0, 0)), (1, (0, 0, 0, 99, a)), (2, (0, 0, 1, 100, b)), (3, (0, 0, (-20), 20, c)), (4, (0, 0, 1, 20, e))] [(1, 0, (-197999), 398000, ((b * b) * e) - ((a * b) * c))] (xa_up M 60 21 0)
            refine hgo.1 11 [56, 60, 65, 68, 69, 76, 80, 86, 89, 92, 93, 98, 102, 103] 69 _ _ _ ?_
            show Q 76 [(5, (1, 0, (-197999), 398000, ((b * b) * e) - ((a * b) * c))), (0, (2, 60, 0, 0, 0)), (1, (0, 0, 0, 99, a)), (2, (0, 0, 1, 100, b)), (3, (0, 0, (-20), 20, c)), (4, (0, 0, 1, 20, e))] [(1, 0, 1, 10000, b * b)] (xa_up M 60 21 0)
            refine hgo.1 8 [56, 60, 65, 68, 69, 76, 80, 86, 89, 92, 93, 98, 102, 103] 76 _ _ _ ?_
            show Q 80 [(5, (1, 0, (-197999), 398000, ((b * b) * e) - ((a * b) * c))), (0, (2, 60, 0, 0, 0)), (1, (0, 0, 0, 99, a)), (2, (0, 0, 1, 100, b)), (3, (0, 0, (-20), 20, c)), (4, (0, 0, 1, 20, e))] [(1, 0, 1, 200000, (b * b) * e)] (xa_up M 60 21 0)
            refine hgo.1 9 [56, 60, 65, 68, 69, 76, 80, 86, 89, 92, 93, 98, 102, 103] 80 _ _ _ ?_
            show Q 86 [(5, (1, 0, (-197999), 398000, ((b * b) * e) - ((a * b) * c))), (0, (2, 60, 0, 0, 0)), (1, (0, 0, 0, 99, a)), (2, (0, 0, 1, 100, b)), (3, (0, 0, (-20), 20, c)), (4, (0, 0, 1, 20, e))] [(1, 0, 0, 198, 2 * a), (1, 0, 1, 200000, (b * b) * e)] (xa_up M 60 21 0)
            refine hgo.1 8 [56, 60, 65, 68, 69, 76, 80, 86, 89, 92, 93, 98, 102, 103] 86 _ _ _ ?_
            show Q 89 [(5, (1, 0, (-197999), 398000, ((b * b) * e) - ((a * b) * c))), (0, (2, 60, 0, 0, 0)), (1, (0, 0, 0, 99, a)), (2, (0, 0, 1, 100, b)), (3, (0, 0, (-20), 20, c)), (4, (0, 0, 1, 20, e))] [(1, 0, 0, 19800, (2 * a) * b), (1, 0, 1, 200000, (b * b) * e)] (xa_up M 60 21 0)
            refine hgo.1 8 [56, 60, 65, 68, 69, 76, 80, 86, 89, 92, 93, 98, 102, 103] 89 _ _ _ ?_
            show Q 92 [(5, (1, 0, (-197999), 398000, ((b * b) * e) - ((a * b) * c))), (0, (2, 60, 0, 0, 0)), (1, (0, 0, 0, 99, a)), (2, (0, 0, 1, 100, b)), (3, (0, 0, (-20), 20, c)), (4, (0, 0, 1, 20, e))] [(1, 0, (-396000), 396000, ((2 * a) * b) * c), (1, 0, 1, 200000, (b * b) * e)] (xa_up M 60 21 0)
            refine hgo.1 6 [56, 60, 65, 68, 69, 76, 80, 86, 89, 92, 93, 98, 102, 103] 92 _ _ _ ?_
            show Q 93 [(5, (1, 0, (-197999), 398000, ((b * b) * e) - ((a * b) * c))), (0, (2, 60, 0, 0, 0)), (1, (0, 0, 0, 99, a)), (2, (0, 0, 1, 100, b)), (3, (0, 0, (-20), 20, c)), (4, (0, 0, 1, 20, e))] [(1, 0, (-395999), 596000, ((b * b) * e) - (((2 * a) * b) * c))] (xa_up M 60 21 0)
            refine hgo.1 10 [56, 60, 65, 68, 69, 76, 80, 86, 89, 92, 93, 98, 102, 103] 93 _ _ _ ?_
            show Q 98 [(5, (1, 0, (-197999), 398000, ((b * b) * e) - ((a * b) * c))), (0, (2, 60, 0, 0, 0)), (1, (0, 0, 0, 99, a)), (2, (0, 0, 1, 100, b)), (3, (0, 0, (-20), 20, c)), (4, (0, 0, 1, 20, e))] [(1, 0, 0, 9801, a * a), (1, 0, (-395999), 596000, ((b * b) * e) - (((2 * a) * b) * c))] (xa_up M 60 21 0)
            refine hgo.1 8 [56, 60, 65, 68, 69, 76, 80, 86, 89, 92, 93, 98, 102, 103] 98 _ _ _ ?_
            show Q 102 [(5, (1, 0, (-197999), 398000, ((b * b) * e) - ((a * b) * c))), (0, (2, 60, 0, 0, 0)), (1, (0, 0, 0, 99, a)), (2, (0, 0, 1, 100, b)), (3, (0, 0, (-20), 20, c)), (4, (0, 0, 1, 20, e))] [(1, 0, 0, 196020, (a * a) * e), (1, 0, (-395999), 596000, ((b * b) * e) - (((2 * a) * b) * c))] (xa_up M 60 21 0)
            refine hgo.1 6 [56, 60, 65, 68, 69, 76, 80, 86, 89, 92, 93, 98, 102, 103] 102 _ _ _ ?_
            show Q 103 [(5, (1, 0, (-197999), 398000, ((b * b) * e) - ((a * b) * c))), (0, (2, 60, 0, 0, 0)), (1, (0, 0, 0, 99, a)), (2, (0, 0, 1, 100, b)), (3, (0, 0, (-20), 20, c)), (4, (0, 0, 1, 20, e))] [(1, 0, (-395999), 792020, (((b * b) * e) - (((2 * a) * b) * c)) + ((a * a) * e))] (xa_up M 60 21 0)
            refine hgo.1 21 [56, 60, 65, 68, 69, 76, 80, 86, 89, 92, 93, 98, 102, 103] 103 _ _ _ ?_
            show xa_C xm_I A h0 _ 230 [(2, 60, 0, 0, 0), (1, 0, (-197999), 398000, ((b * b) * e) - ((a * b) * c)), (1, 0, (-395999), 792020, (((b * b) * e) - (((2 * a) * b) * c)) + ((a * a) * e))] (xa_up (xa_up M 60 21 0) 60 20 0) _
            refine ct_tellPart (n := 0) (by first | rfl | (simp [xa_up]; done)) (by decide) (by decide) (by decide) (by omega) (fun g486 eg486 pg486 qg486 => ?_)
            refine And.intro ?_ ?_
            · intro (c487 : (((b * b) * e) - ((a * b) * c)) ≤ ((((b * b) * e) - (((2 * a) * b) * c)) + ((a * a) * e)))
              refine And.intro ?_ ?_
              · intro (c488 : ((((b * b) * e) - (((2 * a) * b) * c)) + ((a * a) * e)) ≤ (((b * b) * e) - ((a * b) * c)))
                show post (some (0, 0, 0, 0, 0)) (xa_up (xa_up (xa_up (xa_up (xa_up (xa_up M 60 21 0) 60 20 0) 74 0 ((((b * b) * e) - ((a * b) * c)).tdiv g486)) 60 20 1) 74 1 (((((b * b) * e) - (((2 * a) * b) * c)) + ((a * a) * e)).tdiv g486)) 60 20 2)
                exact k _ _ (xm_cor_f (by omega) (xm_cor_a rfl (xm_cor_f (by omega) (xm_cor_a rfl (xm_cor_f (by omega) (xm_cor_f (by omega) xm_cor_r))))))
              · intro (c488 : (((b * b) * e) - ((a * b) * c)) < ((((b * b) * e) - (((2 * a) * b) * c)) + ((a * a) * e)))
                show post (some (0, 0, 2, 2, 2)) (xa_up (xa_up (xa_up (xa_up (xa_up (xa_up M 60 21 0) 60 20 0) 74 0 ((((b * b) * e) - ((a * b) * c)).tdiv g486)) 60 20 1) 74 1 (((((b * b) * e) - (((2 * a) * b) * c)) + ((a * a) * e)).tdiv g486)) 60 20 2)
                exact k _ _ (xm_cor_f (by omega) (xm_cor_a rfl (xm_cor_f (by omega) (xm_cor_a rfl (xm_cor_f (by omega) (xm_cor_f (by omega) xm_cor_r))))))
            · intro (c487 : ((((b * b) * e) - (((2 * a) * b) * c)) + ((a * a) * e)) < (((b * b) * e) - ((a * b) * c)))
              show post (some (0, 0, 1, 1, 1)) (xa_up (xa_up (xa_up (xa_up (xa_up (xa_up M 60 21 0) 60 20 0) 74 0 ((((b * b) * e) - ((a * b) * c)).tdiv g486)) 60 20 1) 74 1 (((((b * b) * e) - (((2 * a) * b) * c)) + ((a * a) * e)).tdiv g486)) 60 20 2)
              exact k _ _ (xm_cor_f (by omega) (xm_cor_a rfl (xm_cor_f (by omega) (xm_cor_a rfl (xm_cor_f (by omega) (xm_cor_f (by omega) xm_cor_r))))))
          · intro (i105 : ¬ ((-e) ≤ c ∧ c ≤ e))
            show post (some (0, 0, (-1), (-1), (-1))) (xa_up M 60 21 0)
            exact k _ _ (xm_cor_f (by omega) xm_cor_r)
        · intro (i4 : ¬ (1 ≤ e ∧ e ≤ 20))
          show post (some (0, 0, (-1), (-1), (-1))) (xa_up M 60 21 0)
          exact k _ _ (xm_cor_f (by omega) xm_cor_r)
  · intro (i1 : ¬ (0 ≤ a ∧ a ≤ 99))
    show post (some (0, 0, (-1), (-1), (-1))) (xa_up M 60 21 0)
    exact k _ _ (xm_cor_f (by omega) xm_cor_r)
