-- pairs of calls: turn, turning, jams
set_option maxRecDepth 20000
/-- both sides have answered, what they hold is as it was -/
theorem tw_lmR {b : Bool} {U V U' V' : xa_M} (h : lm_R b (xj U V)) (e1 : ∀ (q : Nat) (j : Int), ¬ (12 ≤ q ∧ q ≤ 14) → ¬ (q = 48 ∨ q = 49) → U' q j = U q j) (e2 : xm_cor V V') : lm_R b (xj U' V') := by
  refine lm_R_k (fun q j hC => ?_) h
  unfold xj
  by_cases hq : q < 60
  · rw [if_pos hq, if_pos hq]
    exact e1 q j (by unfold lm_C at hC; omega) (by unfold lm_C at hC; omega)
  · rw [if_neg hq, if_neg hq]
    exact e2 q j (by unfold lm_C at hC; unfold xm_scr; omega)
