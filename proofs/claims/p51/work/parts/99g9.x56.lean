-- common: the pair of calls
set_option maxRecDepth 20000
theorem cw_132 {b : Bool} {A : Nat → Nat} {h0 : g_H} {d : Nat} {M : xa_M} {post : Option xa_V → xa_M → Prop} {l1 u1 x1 : Int} (hL : 10 ≤ M 32 0 ∧ M 32 0 ≤ M 32 1 ∧ M 32 1 ≤ 400) (hp : 0 ≤ M (bk_p b) 4 ∧ M (bk_p b) 4 ≤ 8) (hUU : ∀ i : Int, 0 ≤ i → i < M (bk_p b) 4 → (1 ≤ M (bk_p b + 1) i ∧ M (bk_p b + 1) i ≤ 2000) ∧ (1 ≤ M (bk_p b + 2) i ∧ M (bk_p b + 2) i ≤ 2000)) (k : ∀ (r : Int) (M1 : xa_M), cm_P (M 32 0) (M 32 1) (M (bk_p b) 4) (fun p => M (bk_p b + 1) p) (fun p => M (bk_p b + 2) p) x1 r → (∀ (q : Nat) (j : Int), ¬ (q = 33 ∨ q = 48 ∨ q = 49) → M1 q j = M q j) → post (some (0, 0, (-4), 400, r)) M1) : xa_C (xl_I b) A h0 (d + 5) 132 [(2, 0, 0, 0, 0), (0, 0, l1, u1, x1)] M post := by
  cases b
  · exact cw_132_50 hL hp hUU k
  · exact cw_132_55 hL hp hUU k
