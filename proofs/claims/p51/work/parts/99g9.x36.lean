-- pairs of calls: gives, near, off
set_option maxRecDepth 20000
theorem tw_o2 {N0 : xa_M} {a p c v v' : Int} (hr : xm_rng N0) (hb : ∀ p, 0 ≤ p → p < N0 60 11 → 0 ≤ N0 70 p ∧ 1 ≤ N0 71 p) (h : tw_P ((0 ≤ p ∧ p < N0 60 11) ∧ (0 ≤ c ∧ c ≤ 360)) N0 a v (tw_oT tw_oC N0 a p c)) (h' : tw_P ((0 ≤ p ∧ p < N0 60 11) ∧ (0 ≤ c ∧ c ≤ 360)) N0 a v' (tw_oT tw_oR N0 a p c)) : v = v' := by
  rcases h with ⟨h1, h2⟩ | ⟨h1, h2⟩
  · rcases h' with ⟨-, h3⟩ | ⟨h3, -⟩
    · omega
    · exact absurd h3 h1
  · rcases h' with ⟨h3, -⟩ | ⟨-, h3⟩
    · exact absurd h1 h3
    · exact tw_A_one hr h2 h3 (fun _ _ _ _ _ e1 e2 t t' => tw_oT_one h1.2.1 (by have := hb p h1.1.1 h1.1.2; omega) e1 e2 t t')
