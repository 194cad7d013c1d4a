-- nearest: both sides
set_option maxRecDepth 20000
theorem ct_isNearerF {A : Nat → Nat} {h0 : g_H} {d : Nat} {M : xa_M} {post : Option xa_V → xa_M → Prop} {I : xa_I} {l0 u0 l1 u1 l2 u2 l3 u3 l4 u4 l5 u5 : Int} {a b c e f g : Int} (h1 : 0 ≤ a ∧ a ≤ 800000) (h2 : 10 ≤ b ∧ b ≤ 400) (h3 : 10 ≤ c ∧ c ≤ 400) (h4 : 0 ≤ e ∧ e ≤ 800000) (h5 : 0 ≤ f ∧ f ≤ 400) (h6 : 0 ≤ g ∧ g ≤ 400) (k : ∀ r : Int, (r = 0 ∨ r = 1) → (r = 1 ↔ (a * g = e * c ∧ (b + c < f + g ∨ (b + c = f + g ∧ b < f))) ∨ a * g < e * c) → post (some (0, 0, 0, 1, r)) M) : xa_C I A h0 (d + 1) 260 [(1, 0, l0, u0, a), (0, 0, l1, u1, b), (0, 0, l2, u2, c), (1, 0, l3, u3, e), (0, 0, l4, u4, f), (0, 0, l5, u5, g)] M post := by
  refine xa_C_arg [(1, 0, 0, 800000, a), (0, 0, 10, 400, b), (0, 0, 10, 400, c), (1, 0, 0, 800000, e), (0, 0, 0, 400, f), (0, 0, 0, 400, g)] (xa_svL (fun _ _ _ _ => by omega) (xa_svI (fun _ _ _ _ => by omega) (xa_svI (fun _ _ _ _ => by omega) (xa_svL (fun _ _ _ _ => by omega) (xa_svI (fun _ _ _ _ => by omega) (xa_svI (fun _ _ _ _ => by omega) xa_sv0)))))) (xa_C_wk ?_)
  refine xa_meth (Q0 := (12, 2, false, 0, 0, 12)) (by decide +kernel) ⟨rfl, rfl⟩ (full := s_c_260) rfl rfl ?_
  intro hM hv Q hgo
  refine hgo.1 34 [] 0 _ _ _ ?_
  refine And.intro ?_ ?_
  · intro (c1 : (a * g) = (e * c))
    refine And.intro ?_ ?_
    · intro (c2 : (b + c) = (f + g))
      refine And.intro ?_ ?_
      · intro (c3 : f ≤ b)
        show xa_wk post (some (0, 0, 0, 0, 0)) M
        exact xa_wkI 0 rfl (fun _ _ => by omega) (k 0 (by omega) (by omega))
      · intro (c3 : b < f)
        show xa_wk post (some (0, 0, 1, 1, 1)) M
        exact xa_wkI 1 rfl (fun _ _ => by omega) (k 1 (by omega) (by omega))
    · intro (c2 : ¬ (b + c) = (f + g))
      refine And.intro ?_ ?_
      · intro (c4 : (f + g) ≤ (b + c))
        show xa_wk post (some (0, 0, 0, 0, 0)) M
        exact xa_wkI 0 rfl (fun _ _ => by omega) (k 0 (by omega) (by omega))
      · intro (c4 : (b + c) < (f + g))
        show xa_wk post (some (0, 0, 1, 1, 1)) M
        exact xa_wkI 1 rfl (fun _ _ => by omega) (k 1 (by omega) (by omega))
  · intro (c1 : ¬ (a * g) = (e * c))
    refine And.intro ?_ ?_
    · intro (c5 : (e * c) ≤ (a * g))
      show xa_wk post (some (0, 0, 0, 0, 0)) M
      exact xa_wkI 0 rfl (fun _ _ => by omega) (k 0 (by omega) (by omega))
    · intro (c5 : (a * g) < (e * c))
      show xa_wk post (some (0, 0, 1, 1, 1)) M
      exact xa_wkI 1 rfl (fun _ _ => by omega) (k 1 (by omega) (by omega))

